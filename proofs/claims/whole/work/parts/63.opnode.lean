-- ===== node, on both sides =====
section ON
variable {n : Nat} {K A B Z : Nat → Int32} {cells : Nat}
/-- the class's side: what it comes to, by the same tests -/
theorem wp_add (w : WFn n K A B Z cells) {k a b : Int32} {post : Int32 → Int32 → (Nat → Int32) → (Nat → Int32) → (Nat → Int32) → (Nat → Int32) → Prop}
    (hbad : k < 0 ∨ ¬ k ≤ 25 → post (-4) (nI n) K A B Z)
    (hq : ∀ q : Nat, q ≤ 25 → k = nI q →
      ((mtB (tNA q) n K cells a && mtB (tNB q) n K cells b) = false → post (-2) (nI n) K A B Z) ∧
      (mtB (tNA q) n K cells a = true → mtB (tNB q) n K cells b = true →
        (tsB q a = false → post (-4) (nI n) K A B Z) ∧
        (tsB q a = true → (¬ szF Z q a b ≤ 100 → post (-7) (nI n) K A B Z) ∧ (szF Z q a b ≤ 100 → (n = 200 → post (-1) (nI n) K A B Z) ∧ (n < 200 → post (nI (n + 1)) (nI (n + 1)) (upd K (n + 1) (nI q)) (upd A (n + 1) a) (upd B (n + 1) b) (upd Z (n + 1) (szF Z q a b)))))))
    : wp_Nd_add post (nI n) K A B Z k a b (nI cells) := by
  have hn := w.1
  unfold wp_Nd_add
  refine ⟨fun c => hbad (Or.inl c), fun c => ⟨fun c2 => ?_, fun c2 => hbad (Or.inr c2)⟩⟩
  obtain ⟨q, q1, rfl⟩ := nat_k25 c c2
  obtain ⟨h1, h2⟩ := hq q q1 rfl
  have vq : vp_in (nI q) 26 := vp_in_nI (by omega) (by omega)
  rw [nI_clamp (show q < 2 ^ 31 by omega)]
  refine ⟨vq, wp_meets hn ⟨fun z => ?_, fun z => ⟨vq, wp_meets hn ⟨fun z2 => ?_, fun z2 => ?_⟩⟩⟩⟩
  · refine h1 ?_
    rw [bI_0.mp z, Bool.false_and]
  · have e1 : mtB (tNA q) n K cells a = true := by
      cases h : mtB (tNA q) n K cells a with
      | true => rfl
      | false => rw [h] at z; exact absurd rfl z
    have e2 : mtB (tNB q) n K cells b = true := by
      cases h : mtB (tNB q) n K cells b with
      | true => rfl
      | false => rw [h] at z2; exact absurd rfl z2
    obtain ⟨h3, h4⟩ := h2 e1 e2
    refine wp_isTarget q1 ⟨fun z3 => ?_, fun z3 => h3 (bI_0.mp z3)⟩
    have e3 : tsB q a = true := by
      cases h : tsB q a with
      | true => rfl
      | false => rw [h] at z3; exact absurd rfl z3
    obtain ⟨h5, h6⟩ := h4 e3
    refine wp_sizeWith hn q1 e1 e2 ⟨fun z4 => ⟨fun z5 => ?_, fun z5 => ?_⟩, fun z4 => h5 z4⟩
    · rw [show (200 : Int32) = nI 200 from rfl, nI_ltI (by omega) (by omega)] at z5
      have vn : vp_in (nI (n + 1)) 201 := vp_in_nI (by omega) (by omega)
      rw [nI_1, nI_clamp (show n + 1 < 2 ^ 31 by omega)]
      exact ⟨vn, vn, vn, vn, (h6 z4).2 z5⟩
    · rw [show (200 : Int32) = nI 200 from rfl, nI_ltI (by omega) (by omega)] at z5
      exact (h6 z4).1 (by omega)
  · refine h1 ?_
    rw [bI_0.mp z2, Bool.and_false]
variable {th : Int32} {sn : Int64} {pa wa at' hi be ra ne is' fa : Int32} {re : Int64} {mW N : Nat → Int32}
def swF (mW : Nat → Int32) (k : Nat) (a b : Int32) : Int32 := if 2 ≤ k then if 8 ≤ k then 0 else 1 + mW a.toNatClampNeg + mW b.toNatClampNeg else 1
/-- the reference's side -/
theorem mo_node (w : WFn n K A B Z cells) {k a b : Int32} {post : Int32 → Int32 → Int32 → (Nat → Int32) → (Nat → Int32) → (Nat → Int32) → (Nat → Int32) → (Nat → Int32) → Prop}
    (hbad : k < 0 ∨ ¬ k ≤ 25 → post (-4) 0 (nI n) K A B mW N)
    (hq : ∀ q : Nat, q ≤ 25 → k = nI q →
      ((mtB (tNA q) n K cells a && mtB (tNB q) n K cells b) = false → post (-2) 0 (nI n) K A B mW N) ∧
      (mtB (tNA q) n K cells a = true → mtB (tNB q) n K cells b = true →
        (tsB q a = false → post (-4) 0 (nI n) K A B mW N) ∧
        (tsB q a = true → (¬ swF mW q a b ≤ 100 → post (-7) 0 (nI n) K A B mW N) ∧ (swF mW q a b ≤ 100 → (n = 200 → post (-1) 0 (nI n) K A B mW N) ∧ (n < 200 → post (nI (n + 1)) 0 (nI (n + 1)) (upd K (n + 1) (nI q)) (upd A (n + 1) a) (upd B (n + 1) b) (upd mW (n + 1) (swF mW q a b)) (upd N (n + 1) 0))))))
    : wp_Mo_node post th sn (nI cells) (nI n) pa wa at' hi be ra ne is' re fa K A B mW N k a b := by
  have hn := w.1
  unfold wp_Mo_node
  refine ⟨fun c => hbad (Or.inl c), fun c => ⟨fun c2 => ?_, fun c2 => hbad (Or.inr c2)⟩⟩
  obtain ⟨q, q1, rfl⟩ := nat_k25 c c2
  obtain ⟨h1, h2⟩ := hq q q1 rfl
  have kq : ∀ j : Nat, j ≤ 25 → (nI q = nI j ↔ q = j) := fun j hj => nI_eq (by omega) (by omega)
  refine mo_needs (kOK_of w) q1 ⟨fun z => ?_, fun z => h1 (bI_0.mp z)⟩
  have e12 : (mtB (tNA q) n K cells a && mtB (tNB q) n K cells b) = true := by
    cases h : (mtB (tNA q) n K cells a && mtB (tNB q) n K cells b) with
    | true => rfl
    | false => rw [h] at z; exact absurd rfl z
  rw [Bool.and_eq_true] at e12
  obtain ⟨e1, e2⟩ := e12
  obtain ⟨h3, h4⟩ := h2 e1 e2
  -- behind the tests
  have j106 : tsB q a = true → ∀ z0 : Int32, z0 = swF mW q a b → wj_Mo_node_106 post sn (nI cells) pa wa at' hi be ra ne is' re fa 0 (nI n) K A B mW N (nI q) a b z0 := by
    intro e3 z0 hz
    subst hz
    obtain ⟨h5, h6⟩ := h4 e3
    unfold wj_Mo_node_106
    refine ⟨fun z4 => ⟨fun z5 => ?_, fun z5 => ?_⟩, fun z4 => h5 z4⟩
    · rw [show (200 : Int32) = nI 200 from rfl, nI_eq (by omega) (by omega)] at z5
      have vn : vp_in (nI (n + 1)) 201 := vp_in_nI (by omega) (by omega)
      rw [nI_1, nI_clamp (show n + 1 < 2 ^ 31 by omega)]
      exact ⟨vn, vn, vn, vn, vn, (h6 z4).2 (by omega)⟩
    · rw [show (200 : Int32) = nI 200 from rfl, nI_eq (by omega) (by omega)] at z5
      exact (h6 z4).1 z5
  have j72 : tsB q a = true → wj_Mo_node_72 post sn (nI cells) pa wa at' hi be ra ne is' re fa 0 (nI n) K A B mW N (nI q) a b := by
    intro e3
    unfold wj_Mo_node_72
    rw [show (2 : Int32) = nI 2 from rfl, show (8 : Int32) = nI 8 from rfl, nI_leI (by omega) (by omega), nI_leI (by omega) (by omega)]
    refine ⟨fun c => ⟨fun c2 => j106 e3 _ ?_, fun c2 => ?_⟩, fun c => j106 e3 _ ?_⟩
    · unfold swF; rw [if_pos c, if_pos c2]
    · obtain ⟨x, y, x1, x2, y1, y2, hx, hy, x4, y4⟩ := vv_in hn c (by omega) e1 e2
      refine ⟨by rw [hx]; exact vp_in_nI (by omega) (by omega), by rw [hy]; exact vp_in_nI (by omega) (by omega), j106 e3 _ ?_⟩
      unfold swF; rw [if_pos c, if_neg c2]
    · unfold swF; rw [if_neg c]
  have j54 : ¬ (q = 17 ∨ q = 18) ∨ tsB q a = true → wj_Mo_node_54 post sn (nI cells) pa wa at' hi be ra ne is' re fa 0 (nI n) K A B mW N (nI q) a b := by
    intro e3
    unfold wj_Mo_node_54
    refine ⟨fun c => j72 ?_, fun c => ?_⟩
    · rcases e3 with e3 | e3
      · unfold tsB; rw [if_neg e3, if_neg (fun z => c ((kq 19 (by omega)).mpr z))]
      · exact e3
    · have := (kq 19 (by omega)).mp c
      subst this
      have ht : tsB 19 a = (a == 0 || a == 1) := by unfold tsB; rw [if_neg (by omega), if_pos rfl]
      refine ⟨fun z2 => h3 ?_, fun z2 => ⟨fun z3 => j72 ?_, fun z3 => h3 ?_⟩⟩
      · rw [ht, Bool.or_eq_false_iff]
        refine ⟨?_, ?_⟩ <;> simp <;> rintro rfl <;> exact absurd z2 (by decide)
      · rw [ht, Bool.or_eq_true]
        rw [i_lt, i_0] at z2
        rw [i_le, i_1] at z3
        rcases (show a.toInt = 0 ∨ a.toInt = 1 by omega) with z4 | z4
        · exact Or.inl (eq0P.mpr (by rw [i_eq, i_0]; exact z4))
        · exact Or.inr (by simp; rw [i_eq, i_1]; exact z4)
      · rw [ht, Bool.or_eq_false_iff]
        refine ⟨?_, ?_⟩ <;> simp <;> rintro rfl <;> exact absurd (by decide) z3
  have j43 : (q = 17 ∨ q = 18) → wj_Mo_node_43 post sn (nI cells) pa wa at' hi be ra ne is' re fa 0 (nI n) K A B mW N (nI q) a b := by
    intro hq2
    unfold wj_Mo_node_43
    have ht : tsB q a = (decide (¬ a < 1) && decide (¬ 30 < a)) := by unfold tsB; rw [if_pos hq2]
    refine ⟨fun c => h3 ?_, fun c => ⟨fun c2 => h3 ?_, fun c2 => j54 (Or.inr ?_)⟩⟩
    · rw [ht, show decide (¬ a < 1) = false from by simp [c], Bool.false_and]
    · rw [ht, show decide (¬ 30 < a) = false from by simp [c2], Bool.and_false]
    · rw [ht, show decide (¬ a < 1) = true from by simp [c], show decide (¬ 30 < a) = true from by simp [c2]]; rfl
  refine ⟨fun c => j43 (Or.inl ((kq 17 (by omega)).mp c)), fun c => ⟨fun c2 => j54 (Or.inl ?_), fun c2 => j43 (Or.inr ((kq 18 (by omega)).mp c2))⟩⟩
  rintro (z3 | z3)
  · exact c ((kq 17 (by omega)).mpr z3)
  · exact c2 ((kq 18 (by omega)).mpr z3)
/-- both sides -/
theorem op_node (w : WFn n K A B Z cells) (hm : ∀ i : Nat, 1 ≤ i → i ≤ n → isV (K i) = true → mW i = Z i) {k a b ps : Int32} {X : Prop → Prop} (hX : ∀ p : Prop, p → X p)
    {Q : Int32 → Int32 → Int32 → (Nat → Int32) → (Nat → Int32) → (Nat → Int32) → (Nat → Int32) → Int32 → Int32 → (Nat → Int32) → (Nat → Int32) → (Nat → Int32) → (Nat → Int32) → (Nat → Int32) → Prop}
    (h0 : ∀ r, Q r r (nI n) K A B Z 0 (nI n) K A B mW N)
    (h1 : n < 200 → ∀ (k : Int32) (z w' : Int32), WFn (n + 1) (upd K (n + 1) k) (upd A (n + 1) a) (upd B (n + 1) b) (upd Z (n + 1) z) cells → (isV k = true → w' = z) →
      Q (nI (n + 1)) (nI (n + 1)) (nI (n + 1)) (upd K (n + 1) k) (upd A (n + 1) a) (upd B (n + 1) b) (upd Z (n + 1) z) 0 (nI (n + 1)) (upd K (n + 1) k) (upd A (n + 1) a) (upd B (n + 1) b) (upd mW (n + 1) w') (upd N (n + 1) 0)) :
    wp_Pw_node (fun r nm K' A' B' Z' => X (wp_Mo_node (fun r' th' no' K2 A2 B2 W2 N2 => Q r r' nm K' A' B' Z' th' no' K2 A2 B2 W2 N2) th sn (nI cells) (nI n) pa wa at' hi be ra ne is' re fa K A B mW N k a b)) (nI n) K A B Z (nI cells) ps k a b := by
  have hn := w.1
  have i100 : (100 : Int32) = nI 100 := rfl
  unfold wp_Pw_node
  -- the reference, where the class's answer is r
  refine wp_add w (fun hb => hX _ (mo_node w (fun _ => h0 _) (fun q q1 q2 => ?_))) (fun q q1 q2 => ?_)
  · exfalso
    subst q2
    rcases hb with hb | hb
    · exact absurd hb (nI_pos (by omega))
    · exact hb (by rw [show (25 : Int32) = nI 25 from rfl, nI_leI (by omega) (by omega)]; exact q1)
  · subst q2
    have nb : ¬ (nI q < 0 ∨ ¬ nI q ≤ 25) := by
      rintro (hb | hb)
      · exact absurd hb (nI_pos (by omega))
      · exact hb (by rw [show (25 : Int32) = nI 25 from rfl, nI_leI (by omega) (by omega)]; exact q1)
    have inj : ∀ {q' : Nat}, q' ≤ 25 → nI q = nI q' → q' = q := fun h1 h2 => by rw [nI_eq (by omega) (by omega)] at h2; exact h2.symm
    refine ⟨fun e => ?_, fun e1 e2 => ⟨fun e3 => ?_, fun e3 => ?_⟩⟩
    · refine hX _ (mo_node w (fun z => absurd z nb) (fun q' q1' q2' => ?_))
      obtain rfl := inj q1' q2'
      refine ⟨fun _ => h0 _, fun z1 z2 => ?_⟩
      rw [z1, z2] at e; cases e
    · refine hX _ (mo_node w (fun z => absurd z nb) (fun q' q1' q2' => ?_))
      obtain rfl := inj q1' q2'
      refine ⟨fun z => ?_, fun _ _ => ⟨fun _ => h0 _, fun z => ?_⟩⟩
      · rw [e1, e2] at z; cases z
      · rw [e3] at z; cases z
    · -- the sizes
      have hs : (szF Z q a b ≤ 100 ↔ swF mW q a b ≤ 100) ∧ (q ≤ 7 → szF Z q a b = swF mW q a b) ∧ (szF Z q a b ≤ 100 → ∃ z : Nat, szF Z q a b = nI z ∧ 1 ≤ z ∧ z ≤ 100) := by
        by_cases c : 2 ≤ q ∧ q ≤ 7
        · obtain ⟨x, y, x1, x2, y1, y2, hx, hy, x4, y4⟩ := vv_in hn c.1 c.2 e1 e2
          have e : szF Z q a b = swF mW q a b := by
            unfold szF swF
            rw [if_pos c, if_pos c.1, if_neg (by omega), hx, hy, nI_clamp (by omega), nI_clamp (by omega), hm x x1 x2 x4, hm y y1 y2 y4]
          obtain ⟨za, f1, f2, f3⟩ := z_of w x1 x2
          obtain ⟨zb, g1, g2, g3⟩ := z_of w y1 y2
          have e5 : szF Z q a b = nI (1 + za + zb) := by
            unfold szF
            rw [if_pos c, hx, hy, nI_clamp (by omega), nI_clamp (by omega), f1, g1, show (1 : Int32) = nI 1 from rfl, nI_add, nI_add]
          refine ⟨by rw [e], fun _ => e, fun h => ⟨1 + za + zb, e5, by omega, ?_⟩⟩
          rw [e5, i100, nI_leI (by omega) (by omega)] at h
          exact h
        · have e : szF Z q a b = 1 := by unfold szF; rw [if_neg c]
          refine ⟨⟨fun _ => ?_, fun _ => by rw [e]; decide⟩, fun h7 => ?_, fun _ => ⟨1, by rw [e]; rfl, by omega, by omega⟩⟩
          · unfold swF
            by_cases c2 : 2 ≤ q
            · rw [if_pos c2, if_pos (by omega)]; decide
            · rw [if_neg c2]; decide
          · rw [e]; unfold swF; rw [if_neg (by omega)]
      obtain ⟨hs1, hs2, hs3⟩ := hs
      refine ⟨fun e4 => ?_, fun e4 => ⟨fun e5 => ?_, fun e5 => ?_⟩⟩
      · refine hX _ (mo_node w (fun z => absurd z nb) (fun q' q1' q2' => ?_))
        obtain rfl := inj q1' q2'
        refine ⟨fun z => (by rw [e1, e2] at z; cases z), fun _ _ => ⟨fun z => (by rw [e3] at z; cases z), fun _ => ⟨fun _ => h0 _, fun z => absurd (hs1.mpr z) e4⟩⟩⟩
      · refine hX _ (mo_node w (fun z => absurd z nb) (fun q' q1' q2' => ?_))
        obtain rfl := inj q1' q2'
        refine ⟨fun z => (by rw [e1, e2] at z; cases z), fun _ _ => ⟨fun z => (by rw [e3] at z; cases z), fun _ => ⟨fun z => absurd (hs1.mp e4) z, fun _ => ⟨fun _ => h0 _, fun z => by omega⟩⟩⟩⟩
      · refine hX _ (mo_node w (fun z => absurd z nb) (fun q' q1' q2' => ?_))
        obtain rfl := inj q1' q2'
        refine ⟨fun z => (by rw [e1, e2] at z; cases z), fun _ _ => ⟨fun z => (by rw [e3] at z; cases z), fun _ => ⟨fun z => absurd (hs1.mp e4) z, fun _ => ⟨fun z => by omega, fun _ => ?_⟩⟩⟩⟩
        obtain ⟨zz, z1, z2, z3⟩ := hs3 e4
        refine h1 e5 _ _ _ ?_ ?_
        · rw [z1]
          refine WFn_add w e5 q1 e1 e2 e3 z2 z3 (fun k2 k7 => ?_)
          rw [← z1]
          unfold szF
          rw [if_pos ⟨k2, k7⟩]
        · intro hv
          rw [isV_k _ q1] at hv
          have hv : q' < 8 := by simpa using hv
          exact (hs2 (by omega)).symm
end ON
