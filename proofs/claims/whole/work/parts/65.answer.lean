-- ===== answer, on both sides =====
theorem nar_9 {v : Nat} (h : v ≤ 9) : vp_nar .byte ((nI v).toInt8.toInt32) = nI v := by
  have : ∀ k : Fin 10, vp_nar .byte ((nI k.val).toInt8.toInt32) = nI k.val := by decide +kernel
  exact this ⟨v, by omega⟩
theorem wsm_aupd {aT T : Nat → Int32} {s : Nat} {x : Int32} : ∀ k, k < s → wsm (upd aT s x) T k = wsm aT T k := by
  intro k
  induction k with
  | zero => intro _; rfl
  | succ k ih => intro h; simp only [wsm]; rw [ih (by omega), pk_un (by omega)]
theorem wsm_tell {aT T : Nat → Int32} {s n : Nat} (h1 : 1 ≤ s) (h2 : s ≤ n) : wsm (upd aT s (aT s + 1)) T n = wsm aT T n + 1 := by
  induction n with
  | zero => omega
  | succ n ih =>
    simp only [wsm]
    by_cases hn : s = n + 1
    · subst hn
      rw [wsm_aupd n (by omega), pk_us]
      apply Int32.toBitVec_inj.mp
      simp only [Int32.toBitVec_add, Int32.toBitVec_sub]
      generalize (wsm aT T n).toBitVec = a
      generalize (aT (n + 1)).toBitVec = b
      generalize (T (n + 1)).toBitVec = d
      generalize (1 : Int32).toBitVec = e
      simp only [BitVec.sub_eq_add_neg]
      ac_rfl
    · rw [ih (by omega), pk_un (by omega)]
      apply Int32.toBitVec_inj.mp
      simp only [Int32.toBitVec_add, Int32.toBitVec_sub]
      generalize (wsm aT T n).toBitVec = a
      generalize (aT (n + 1)).toBitVec = b
      generalize (T (n + 1)).toBitVec = d
      generalize (1 : Int32).toBitVec = e
      simp only [BitVec.sub_eq_add_neg]
      ac_rfl
theorem QR_tell {aR aT T N Q : Nat → Int32} {i t u v : Nat} (hQ : QR aR aT T N Q) (i1 : 1 ≤ i) (hT : T i = nI t) (hu : aT i = nI u) (htu : t ≤ u) (h20 : u - t < 20) (hu2 : u < 1000000) (hv : v ≤ 9) :
    QR (upd aR (20 * i + u % 20) (nI v)) (upd aT i (nI (u + 1))) T (upd N i (nI (u - t + 1))) (upd Q (20 * i - 20 + (u - t)) (nI v)) := by
  intro s s1 s2
  obtain ⟨t', u', e1, e2, e3, e4, e5, e6, e7⟩ := hQ s s1 s2
  by_cases hs : s = i
  · subst hs
    refine ⟨t, u + 1, hT, pk_us, by omega, by omega, by omega, ?_, ?_⟩
    · rw [pk_us]; congr 1; omega
    · intro j hj
      by_cases hj2 : j = u - t
      · subst hj2
        rw [pk_us, show t + (u - t) = u by omega, pk_us]
        exact ⟨rfl, v, hv, rfl⟩
      · have ht : t' = t ∨ ¬ t' < 2 ^ 31 := by
          by_cases q : t' < 2 ^ 31
          · left
            have e := hT.symm.trans e1
            rw [nI_eq (by omega) (by omega)] at e
            exact e.symm
          · exact Or.inr q
        have ht : t' = t := by omega
        have hu' : u' = u := by
          have e := hu.symm.trans e2
          rw [nI_eq (by omega) (by omega)] at e
          exact e.symm
        subst ht
        subst hu'
        rw [pk_un (by omega), pk_un (by omega)]
        exact e7 j (by omega)
  · refine ⟨t', u', e1, by rw [pk_un hs]; exact e2, e3, e4, e5, by rw [pk_un hs]; exact e6, fun j hj => ?_⟩
    rw [pk_un (by omega), pk_un (by omega)]
    exact e7 j hj
section OA
variable {n : Nat} {K : Nat → Int32}
variable {th : Int32} {sn : Int64} {ce pa wa at' hi be ra ne is' fa : Int32} {re : Int64} {X : Prop → Prop}
theorem op_answer {aR aT T N Qm : Nat → Int32} {sc ps a1 a2 : Int32} (hX : ∀ p : Prop, p → X p) (hk : kOK n K) (hQ : QR aR aT T N Qm) (hu : ∀ s : Nat, s ≤ 200 → ∃ u : Nat, aT s = nI u ∧ u ≤ 1000)
    {Q : Int32 → Int32 → (Nat → Int32) → (Nat → Int32) → Int32 → Int32 → (Nat → Int32) → (Nat → Int32) → Prop}
    (h0 : ∀ r, Q r r aR aT 0 wa N Qm)
    (h1 : ∀ (i u : Nat) (r : Int32) (aR' N' Q' : Nat → Int32), 1 ≤ i → i ≤ n → aT i = nI u → QR aR' (upd aT i (nI (u + 1))) T N' Q' → (∀ s : Nat, ¬ s = i → N' s = N s) → Q r r aR' (upd aT i (nI (u + 1))) 0 (wa + 1) N' Q') :
    wp_Pw_answer (fun r aR' aT' => X (wp_Mo_answer (fun r' th' wa2 N2 Q2 => Q r r' aR' aT' th' wa2 N2 Q2) th sn ce (nI n) pa wa at' hi be ra ne is' re fa K N Qm a1 a2)) (nI n) K aR aT sc T ps a1 a2 := by
  have hn := hk.1
  unfold wp_Pw_answer
  -- the reference, by its first test
  have mo : ∀ {post : Int32 → Int32 → Int32 → (Nat → Int32) → (Nat → Int32) → Prop}, (¬ kx n K a1 = 25 → post (-2) 0 wa N Qm) → (kx n K a1 = 25 → (a2 < 0 ∨ ¬ a2 ≤ 9) → post (-4) 0 wa N Qm) →
      (kx n K a1 = 25 → ∀ i t u v : Nat, 1 ≤ i → i ≤ n → a1 = nI i → T i = nI t → aT i = nI u → t ≤ u → u - t ≤ 20 → v ≤ 9 → a2 = nI v → N i = nI (u - t) → (u - t = 20 → post (-1) 0 wa N Qm) ∧ (u - t < 20 → post (nI (u - t + 1)) 0 (wa + 1) (upd N i (nI (u - t + 1))) (upd Qm (20 * i - 20 + (u - t)) (nI v)))) →
      wp_Mo_answer post th sn ce (nI n) pa wa at' hi be ra ne is' re fa K N Qm a1 a2 := by
    intro post p1 p2 p3
    unfold wp_Mo_answer
    refine mo_isKind (j := 25) hk (by omega) ⟨fun z => ?_, fun z => p1 (fun q => ?_)⟩
    · have e : kx n K a1 = 25 := by
        cases h : (kx n K a1 == nI 25) with
        | true => exact (by simpa using h : kx n K a1 = nI 25)
        | false => rw [h] at z; exact absurd rfl z
      obtain ⟨i, i1, i2, rfl, -⟩ := kx_p (p := fun k => k == 25) hn (by decide) (by simpa using e)
      refine ⟨fun c => p2 e (Or.inl c), fun c => ⟨fun c2 => ?_, fun c2 => p2 e (Or.inr c2)⟩⟩
      obtain ⟨v, -, v2, rfl⟩ := nat_in (a := 0) (b := 9) (by omega) (by omega) (by rw [nI_0]; exact c) c2
      obtain ⟨t, u, e1, e2, e3, e4, e5, e6, e7⟩ := hQ i i1 (by omega)
      obtain ⟨p4, p5⟩ := p3 e i t u v i1 i2 rfl e1 e2 e3 e4 v2 rfl e6
      have vi : vp_in (nI i) 201 := vp_in_nI (by omega) (by omega)
      rw [nI_clamp (show i < 2 ^ 31 by omega), e6, nI_20s i1, nI_add, nI_1, pk_us, nI_clamp (show 20 * i - 20 + (u - t) < 2 ^ 31 by omega), show (20 : Int32) = nI 20 from rfl, nI_eq (by omega) (by omega)]
      exact ⟨vi, fun q => ⟨vi, vp_in_nI (by omega) (by omega), vi, vi, vi, p5 (by omega)⟩, fun q => p4 q⟩
    · rw [q] at z; exact absurd z (by decide)
  refine wp_kindOf hn ⟨fun c => ⟨fun c2 => hX _ (mo (fun q => absurd c q) (fun _ _ => h0 _) (fun _ i t u v _ _ _ _ _ _ _ hv e _ => absurd c2 (by rw [e]; exact nI_pos (by omega)))), fun c2 => ⟨fun c3 => ?_, fun c3 => hX _ (mo (fun q => absurd c q) (fun _ _ => h0 _) (fun _ i t u v _ _ _ _ _ _ _ hv e _ => absurd (by rw [e, show (9 : Int32) = nI 9 from rfl, nI_leI (by omega) (by omega)]; exact hv) c3))⟩⟩, fun c => hX _ (mo (fun _ => h0 _) (fun q => absurd q c) (fun q => absurd q c))⟩
  · obtain ⟨i, i1, i2, rfl, -⟩ := kx_p (p := fun k => k == 25) hn (by decide) (by simpa using c)
    obtain ⟨v, -, v2, rfl⟩ := nat_in (a := 0) (b := 9) (by omega) (by omega) (by rw [nI_0]; exact c2) c3
    obtain ⟨t, u, e1, e2, e3, e4, e5, e6, e7⟩ := hQ i i1 (by omega)
    obtain ⟨u', f1, f2⟩ := hu i (by omega)
    have hu' : u' = u := by
      have e := f1.symm.trans e2
      rwa [nI_eq (by omega) (by omega)] at e
    subst hu'
    have g0 : ¬ nI i < 0 := nI_pos (by omega)
    have g1 : ¬ (201 : Int32) ≤ nI i := by rw [show (201 : Int32) = nI 201 from rfl, nI_leI (by omega) (by omega)]; omega
    have g2 : nI i < 201 := by rw [show (201 : Int32) = nI 201 from rfl, nI_ltI (by omega) (by omega)]; omega
    have vi : vp_in (nI i) 201 := vp_in_nI (by omega) (by omega)
    have ci : (nI i).toNatClampNeg = i := nI_clamp (by omega)
    have other : ∀ {P : Prop}, ¬ kx n K (nI i) = 25 → P := fun q => absurd c q
    have inj : ∀ {i' t' u2 v' : Nat}, i' ≤ n → nI i = nI i' → T i' = nI t' → aT i' = nI u2 → t' ≤ u2 → u2 - t' ≤ 20 → v' ≤ 9 → nI v = nI v' → i' = i ∧ v' = v ∧ u2 - t' = u' - t := by
      intro i' t' u2 v' h1 h2 h3 h4 h5 h6 h7 h8
      rw [nI_eq (by omega) (by omega)] at h2 h8
      subst h2
      refine ⟨rfl, h8.symm, ?_⟩
      have h9 : aT i - T i = nI (u' - t) := by rw [e1, e2, pk_sub e3]
      rw [h3, h4, pk_sub h5, nI_eq (by omega) (by omega)] at h9
      exact h9
    unfold wp_Sc_takenOf
    refine ⟨fun q => absurd q g0, fun _ => ⟨fun q => absurd q g1, fun _ => ⟨vi, ?_⟩⟩⟩
    unfold wp_An_tell
    refine ⟨fun q => absurd q g0, fun _ => ⟨fun _ => ⟨vi, ?_⟩, fun q => absurd g2 q⟩⟩
    rw [ci, e1, e2, pk_sub e3, show (20 : Int32) = nI 20 from rfl, nI_ltI (by omega) (by omega)]
    refine ⟨fun q => ⟨vi, wp_floorMod (by omega) ?_⟩, fun q => hX _ (mo (fun q => other q) (fun _ z => ?_) (fun _ i' t' u2 v' a1' a2' a3' a4' a5' a6' a7' a8' a9' a10' => ⟨fun _ => h0 _, fun z => ?_⟩))⟩
    · rw [show nI i * nI 20 + nI (u' % 20) = nI (20 * i + u' % 20) from nI_m20 i (u' % 20), nI_clamp (show 20 * i + u' % 20 < 2 ^ 31 by omega), nI_1, pk_us, pk_sub (by omega), nar_9 v2]
      refine ⟨vp_in_nI (by omega) (by omega), vi, vi, vi, hX _ (mo (fun q => other q) (fun _ z => ?_) (fun _ i' t' u2 v' a1' a2' a3' a4' a5' a6' a7' a8' a9' a10' => ⟨fun z => ?_, fun z => ?_⟩))⟩
      · exfalso
        rcases z with z | z
        · exact c2 z
        · exact z c3
      · have := (inj a2' a3' a4' a5' a6' a7' a8' a9').2.2
        omega
      · obtain ⟨rfl, rfl, h9⟩ := inj a2' a3' a4' a5' a6' a7' a8' a9'
        rw [h9, show u' + 1 - t = u' - t + 1 by omega]
        exact h1 i' u' _ _ _ _ i1 i2 e2 (QR_tell hQ i1 e1 e2 e3 q (by omega) v2) (fun s hs => pk_un hs)
    · exfalso
      rcases z with z | z
      · exact c2 z
      · exact z c3
    · exfalso
      have := (inj a2' a3' a4' a5' a6' a7' a8' a9').2.2
      omega
end OA
