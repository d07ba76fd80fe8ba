-- ===== cell, paragraph, answer, and what is only looked up =====
section OP
variable {n : Nat} {K A B Z : Nat → Int32} {cells : Nat}
variable {th : Int32} {sn : Int64} {no pa wa at' hi be ra ne is' fa : Int32} {re : Int64} {X : Prop → Prop}
theorem nat_in {x : Int32} {a b : Nat} (ha : a < 2 ^ 31) (hb : b < 2 ^ 31) (h : ¬ x < nI a) (h2 : x ≤ nI b) : ∃ q : Nat, a ≤ q ∧ q ≤ b ∧ x = nI q := by
  rw [i_lt, i_nat ha] at h
  rw [i_le, i_nat hb] at h2
  refine ⟨x.toInt.toNat, by omega, by omega, ?_⟩
  rw [i_eq, i_nat (by omega)]; omega
theorem op_cell {W : Nat → Int32} {V : Nat → Int64} {ps a1 : Int32} {a2 : Int64} (hX : ∀ p : Prop, p → X p) (hc : cells ≤ 40) (hW : okW cells W)
    {Q : Int32 → Int32 → Int32 → (Nat → Int32) → (Nat → Int64) → Int32 → Int32 → (Nat → Int32) → (Nat → Int64) → Prop}
    (h0 : ∀ r, Q r r (nI cells) W V 0 (nI cells) W V)
    (h1 : cells < 40 → ∀ (d : Nat) (v' : Int64), 1 ≤ d → d ≤ 18 → Q (nI cells) (nI cells) (nI (cells + 1)) (upd W cells (nI d)) (vp_updL V cells v') 0 (nI (cells + 1)) (upd W cells (nI d)) (vp_updL V cells v')) :
    wp_Pw_cell (fun r ce' W' V' => X (wp_Mo_cell (fun r' th' ce2 D2 V2 => Q r r' ce' W' V' th' ce2 D2 V2) th sn (nI cells) no pa wa at' hi be ra ne is' re fa W V a1 a2)) (nI cells) W V ps a1 a2 := by
  have i40 : (40 : Int32) = nI 40 := rfl
  have i18 : (18 : Int32) = nI 18 := rfl
  unfold wp_Pw_cell wp_Sc_addCell
  refine ⟨fun c => hX _ ⟨fun _ => h0 _, fun q => absurd c q⟩, fun c => ⟨fun c2 => ⟨fun c3 => ?_, fun c3 => hX _ ⟨fun q => absurd q c, fun _ => ⟨fun _ => ⟨fun q => absurd ?_ q, fun _ => h0 _⟩, fun q => absurd c2 q⟩⟩⟩, fun c2 => hX _ ⟨fun _ => h0 _, fun _ => ⟨fun q => absurd q c2, fun _ => h0 _⟩⟩⟩⟩
  · rw [i40, nI_ltI (by omega) (by omega)] at c3
    obtain ⟨d, d1, d2, rfl⟩ := nat_in (a := 1) (b := 18) (by omega) (by omega) c c2
    have vc : vp_in (nI cells) 40 := vp_in_nI (by omega) (by omega)
    have cc : (nI cells).toNatClampNeg = cells := nI_clamp (by omega)
    have hW' : okW (cells + 1) (upd W cells (nI d)) := by
      intro q hq
      by_cases hqc : q = cells
      · subst hqc; exact ⟨d, d1, d2, pk_us⟩
      · obtain ⟨y, y1, y2, y3⟩ := hW q (by omega)
        exact ⟨y, y1, y2, by rw [pk_un hqc]; exact y3⟩
    rw [nI_1, nI_pred, cc]
    refine ⟨vc, wp_keep (by omega) (by omega) hW' (hX _ ?_)⟩
    refine ⟨fun q => absurd q c, fun _ => ⟨fun _ => ⟨fun _ => ⟨vc, mo_cut d2 ⟨vc, ?_⟩⟩, fun q => ?_⟩, fun q => absurd c2 q⟩⟩
    · rw [nI_1, nI_pred, cc, pk_us]
      exact h1 c3 d _ d1 d2
    · rw [i40, nI_eq (by omega) (by omega)] at q; omega
  · rw [i40, nI_ltI (by omega) (by omega)] at c3
    rw [i40, nI_eq (by omega) (by omega)]; omega
theorem op_paragraph {R S : Nat → Int32} {pn : Nat} {ce ps a1 a2 : Int32} (hX : ∀ p : Prop, p → X p) (hk : kOK n K) (hpn : pn ≤ 30)
    {Q : Int32 → Int32 → Int32 → (Nat → Int32) → (Nat → Int32) → Int32 → Int32 → (Nat → Int32) → (Nat → Int32) → Prop}
    (h0 : ∀ r, Q r r (nI pn) R S 0 (nI pn) R S)
    (h1 : pn < 30 → (a1 = 0 ∨ ∃ y : Nat, a1 = nI y ∧ 1 ≤ y ∧ y ≤ n ∧ isS (K y) = true) → Q (nI (pn + 1)) (nI (pn + 1)) (nI (pn + 1)) (upd R (pn + 1) a1) (upd S (pn + 1) a2) 0 (nI (pn + 1)) (upd R (pn + 1) a1) (upd S (pn + 1) a2)) :
    wp_Pw_paragraph (fun r pm' R' S' => X (wp_Mo_paragraph (fun r' th' pa2 R2 S2 => Q r r' pm' R' S' th' pa2 R2 S2) th sn ce (nI n) (nI pn) wa at' hi be ra ne is' re fa K R S a1 a2)) (nI n) K (nI pn) R S ps a1 a2 := by
  have hn := hk.1
  have i30 : (30 : Int32) = nI 30 := rfl
  -- the reference behind its first test
  have j20 : ∀ {post : Int32 → Int32 → Int32 → (Nat → Int32) → (Nat → Int32) → Prop}, ((a2 < 0 ∨ ¬ a2 ≤ 9) → post (-4) 0 (nI pn) R S) → (¬ a2 < 0 → a2 ≤ 9 → (pn = 30 → post (-1) 0 (nI pn) R S) ∧ (pn < 30 → post (nI (pn + 1)) 0 (nI (pn + 1)) (upd R (pn + 1) a1) (upd S (pn + 1) a2))) → wj_Mo_paragraph_20 post sn ce (nI n) wa at' hi be ra ne is' re fa K 0 (nI pn) R S a1 a2 := by
    intro post hb hg
    unfold wj_Mo_paragraph_20
    refine ⟨fun c => hb (Or.inl c), fun c => ⟨fun c2 => ⟨fun c3 => ?_, fun c3 => ?_⟩, fun c2 => hb (Or.inr c2)⟩⟩
    · rw [i30, nI_eq (by omega) (by omega)] at c3
      have vn : vp_in (nI (pn + 1)) 31 := vp_in_nI (by omega) (by omega)
      rw [nI_1, nI_clamp (show pn + 1 < 2 ^ 31 by omega)]
      exact ⟨vn, vn, (hg c c2).2 (by omega)⟩
    · rw [i30, nI_eq (by omega) (by omega)] at c3
      exact (hg c c2).1 c3
  -- adding, where the root is a good one
  have add : (a1 = 0 ∨ ∃ y : Nat, a1 = nI y ∧ 1 ≤ y ∧ y ≤ n ∧ isS (K y) = true) → (∀ {post : Int32 → Int32 → Int32 → (Nat → Int32) → (Nat → Int32) → Prop}, wj_Mo_paragraph_20 post sn ce (nI n) wa at' hi be ra ne is' re fa K 0 (nI pn) R S a1 a2 → wp_Mo_paragraph post th sn ce (nI n) (nI pn) wa at' hi be ra ne is' re fa K R S a1 a2) →
      wp_Pg_add (fun r pm' R' S' => X (wp_Mo_paragraph (fun r' th' pa2 R2 S2 => Q r r' pm' R' S' th' pa2 R2 S2) th sn ce (nI n) (nI pn) wa at' hi be ra ne is' re fa K R S a1 a2)) (nI pn) R S a1 a2 := by
    intro hr hm
    unfold wp_Pg_add
    refine ⟨fun c => hX _ (hm (j20 (fun _ => h0 _) (fun q => absurd c q))), fun c => ⟨fun c2 => ⟨fun c3 => ?_, fun c3 => ?_⟩, fun c2 => hX _ (hm (j20 (fun _ => h0 _) (fun _ q => absurd q c2)))⟩⟩
    · rw [i30, nI_ltI (by omega) (by omega)] at c3
      have vn : vp_in (nI (pn + 1)) 31 := vp_in_nI (by omega) (by omega)
      rw [nI_1, nI_clamp (show pn + 1 < 2 ^ 31 by omega)]
      refine ⟨vn, vn, hX _ (hm (j20 (fun q => absurd q ?_) (fun _ _ => ⟨fun q => by omega, fun _ => h1 c3 hr⟩)))⟩
      rintro (q | q)
      · exact c q
      · exact q c2
    · rw [i30, nI_ltI (by omega) (by omega)] at c3
      refine hX _ (hm (j20 (fun _ => ?_) (fun _ _ => ⟨fun _ => h0 _, fun q => by omega⟩)))
      rename_i q
      rcases q with q | q
      · exact absurd q c
      · exact absurd c2 q
  unfold wp_Pw_paragraph
  refine ⟨fun c => add (Or.inl c) (fun h => ⟨fun _ => h, fun q => absurd c q⟩), fun c => wp_isStatement hn ?_⟩
  cases hs : isS (kx n K a1) with
  | true =>
    obtain ⟨y, y1, y2, y3, y4⟩ := kx_p hn (by decide) hs
    refine ⟨fun _ => add (Or.inr ⟨y, y3, y1, y2, y4⟩) (fun h => ⟨fun q => absurd q c, fun _ => mo_isStatement hk ?_⟩), fun q => absurd q (by decide)⟩
    rw [hs]
    exact ⟨fun _ => h, fun q => absurd q (by decide)⟩
  | false =>
    refine ⟨fun q => absurd rfl q, fun _ => hX _ ⟨fun q => absurd q c, fun _ => mo_isStatement hk ?_⟩⟩
    rw [hs]
    exact ⟨fun q => absurd rfl q, fun _ => h0 _⟩
end OP
