-- ===== a new node =====
theorem kx_p {n : Nat} {K : Nat → Int32} {x : Int32} {p : Int32 → Bool} (hn : n ≤ 200) (h0 : p (-1) = false) (h : p (kx n K x) = true) : ∃ i : Nat, 1 ≤ i ∧ i ≤ n ∧ x = nI i ∧ p (K i) = true := by
  by_cases c : x < 1
  · unfold kx at h; rw [if_pos c, h0] at h; cases h
  · by_cases c2 : nI n < x
    · unfold kx at h; rw [if_neg c, if_pos c2, h0] at h; cases h
    · obtain ⟨i, i1, i2, rfl⟩ := nat_of1 c c2 (by omega)
      rw [kx_in i1 i2 hn] at h
      exact ⟨i, i1, i2, rfl, h⟩
theorem chN_upd {K : Nat → Int32} {i m : Nat} {x v : Int32} {p : Int32 → Bool} (h : chN K i x p) (hm : i ≤ m) : chN (upd K m v) i x p := by
  obtain ⟨j, j1, j2, j3, j4⟩ := h
  exact ⟨j, j1, j2, j3, by rw [pk_un (by omega)]; exact j4⟩
theorem needP_upd {c : Int32} {K : Nat → Int32} {cells i m : Nat} {x v : Int32} (h : needP c K cells i x) (hm : i ≤ m) : needP c (upd K m v) cells i x := by
  obtain ⟨h1, h2, h3, h4, h5, h6, h7, h8, h9⟩ := h
  exact ⟨h1, fun q => chN_upd (h2 q) hm, fun q => chN_upd (h3 q) hm, fun q => chN_upd (h4 q) hm, fun q => chN_upd (h5 q) hm, fun q => (h6 q).imp id (fun z => chN_upd z hm), fun q => chN_upd (h7 q) hm, fun q => (h8 q).imp id (fun z => z.imp (fun y => chN_upd y hm) (fun y => chN_upd y hm)), fun q => (h9 q).imp id (fun z => chN_upd z hm)⟩
theorem mt_need {c : Int32} {n : Nat} {K : Nat → Int32} {cells : Nat} {x v : Int32} (hn : n ≤ 200) (hc : cells ≤ 40) (h : mtB c n K cells x = true) : needP c (upd K (n + 1) v) cells (n + 1) x := by
  have ch : ∀ p : Int32 → Bool, p (-1) = false → p (kx n K x) = true → chN (upd K (n + 1) v) (n + 1) x p := by
    intro p h0 h1
    obtain ⟨i, i1, i2, i3, i4⟩ := kx_p hn h0 h1
    exact chN_upd ⟨i, i1, by omega, i3, i4⟩ (Nat.le_refl _)
  refine ⟨fun q => ?_, fun q => ?_, fun q => ?_, fun q => ?_, fun q => ?_, fun q => ?_, fun q => ?_, fun q => ?_, fun q => ?_⟩ <;> subst q
  · rw [mt1, Bool.and_eq_true, decide_eq_true_eq, decide_eq_true_eq] at h
    obtain ⟨i, i1, i2⟩ := nat_of0 h.1 h.2 (by omega)
    exact ⟨i, i1, i2⟩
  · rw [mt2] at h; exact ch _ (by decide) h
  · rw [mt3] at h; exact ch _ (by decide) h
  · rw [mt4] at h; exact ch (fun k => k == 13) (by decide) h
  · rw [mt5] at h; exact ch (fun k => k == 15) (by decide) h
  · rw [mt6, Bool.or_eq_true] at h
    rcases h with h | h
    · exact Or.inl (eq0P.mp h)
    · exact Or.inr (ch (fun k => k == 15) (by decide) h)
  · rw [mt7] at h; exact ch (fun k => k == 16) (by decide) h
  · rw [mt8, Bool.or_eq_true, Bool.or_eq_true] at h
    rcases h with h | h | h
    · exact Or.inl (eq0P.mp h)
    · exact Or.inr (Or.inl (ch _ (by decide) h))
    · exact Or.inr (Or.inr (ch (fun k => k == 8) (by decide) h))
  · rw [mt9, Bool.or_eq_true] at h
    rcases h with h | h
    · exact Or.inl (eq0P.mp h)
    · exact Or.inr (ch _ (by decide) h)
/-- is the target such a one -/
def tsB (k : Nat) (a : Int32) : Bool := if k = 17 ∨ k = 18 then decide (¬ a < 1) && decide (¬ 30 < a) else if k = 19 then (a == 0 || a == 1) else true
theorem needP_cells {c : Int32} {K : Nat → Int32} {cells cells' i : Nat} {x : Int32} (h : needP c K cells i x) (hm : cells ≤ cells') : needP c K cells' i x :=
  ⟨fun q => by obtain ⟨y, y1, y2⟩ := h.1 q; exact ⟨y, by omega, y2⟩, h.2⟩
theorem WFn_cells {n : Nat} {K A B Z : Nat → Int32} {cells cells' : Nat} (w : WFn n K A B Z cells) (h : cells ≤ cells') (h2 : cells' ≤ 40) : WFn n K A B Z cells' := by
  refine ⟨w.1, h2, fun i i1 i2 => ?_⟩
  obtain ⟨k, k1, k2, k3, k4, k5⟩ := w.2.2 i i1 i2
  exact ⟨k, k1, k2, needP_cells k3 h, needP_cells k4 h, k5⟩
theorem WFn_add {n : Nat} {K A B Z : Nat → Int32} {cells : Nat} (w : WFn n K A B Z cells) {k z : Nat} {a b : Int32} (hn : n < 200) (hk : k ≤ 25) (ha : mtB (tNA k) n K cells a = true) (hb : mtB (tNB k) n K cells b = true) (ht : tsB k a = true)
    (hz1 : 1 ≤ z) (hz2 : z ≤ 100) (hz3 : 2 ≤ k → k ≤ 7 → nI z = 1 + Z a.toNatClampNeg + Z b.toNatClampNeg) : WFn (n + 1) (upd K (n + 1) (nI k)) (upd A (n + 1) a) (upd B (n + 1) b) (upd Z (n + 1) (nI z)) cells := by
  have hc := w.2.1
  refine ⟨by omega, hc, fun i i1 i2 => ?_⟩
  by_cases hi : i = n + 1
  · subst hi
    refine ⟨k, hk, pk_us, ?_, ?_, ?_, ?_, z, pk_us, hz1, hz2, ?_⟩
    · rw [pk_us]; exact mt_need (by omega) hc ha
    · rw [pk_us]; exact mt_need (by omega) hc hb
    · intro q
      unfold tsB at ht
      rw [if_pos q, Bool.and_eq_true, decide_eq_true_eq, decide_eq_true_eq] at ht
      rw [pk_us]
      obtain ⟨y, y1, y2, y3⟩ := nat_of1 (n := 30) ht.1 ht.2 (by omega)
      exact ⟨y, y1, y2, y3⟩
    · intro q
      subst q
      unfold tsB at ht
      rw [if_neg (by omega), if_pos rfl, Bool.or_eq_true] at ht
      rw [pk_us]
      rcases ht with h | h
      · exact Or.inl (eq0P.mp h)
      · exact Or.inr (by simpa using h)
    · intro k2 k7 x y x1 y1 hx hy
      rw [pk_us] at hx hy
      have e := hz3 k2 k7
      rw [hx, hy, nI_clamp (by omega), nI_clamp (by omega)] at e
      have e1 : tNA k = 2 ∧ tNB k = 2 := by
        rcases (show k = 2 ∨ k = 3 ∨ k = 4 ∨ k = 5 ∨ k = 6 ∨ k = 7 by omega) with rfl | rfl | rfl | rfl | rfl | rfl <;> exact ⟨rfl, rfl⟩
      rw [e1.1, mt2] at ha
      rw [e1.2, mt2] at hb
      obtain ⟨xa, xa1, xa2, xa3, -⟩ := kx_p (by omega) (by decide) ha
      obtain ⟨yb, yb1, yb2, yb3, -⟩ := kx_p (by omega) (by decide) hb
      have ex : x = xa := by rw [hx] at xa3; rwa [nI_eq (by omega) (by omega)] at xa3
      have ey : y = yb := by rw [hy] at yb3; rwa [nI_eq (by omega) (by omega)] at yb3
      subst ex
      subst ey
      obtain ⟨za, f1, f2, f3⟩ := z_of w xa1 xa2
      obtain ⟨zb, g1, g2, g3⟩ := z_of w yb1 yb2
      refine ⟨za, zb, by rw [pk_un (by omega)]; exact f1, by rw [pk_un (by omega)]; exact g1, ?_⟩
      rw [f1, g1, show (1 : Int32) = nI 1 from rfl, nI_add, nI_add, nI_eq (by omega) (by omega)] at e
      exact e
  · obtain ⟨k', k1, k2, k3, k4, k5, k6, z', z1, z2, z3, z4⟩ := w.2.2 i i1 (by omega)
    refine ⟨k', k1, by rw [pk_un hi]; exact k2, by rw [pk_un hi]; exact needP_upd k3 (by omega), by rw [pk_un hi]; exact needP_upd k4 (by omega), by rw [pk_un hi]; exact k5, by rw [pk_un hi]; exact k6, z', by rw [pk_un hi]; exact z1, z2, z3, ?_⟩
    intro q1 q2 x y x1 y1 hx hy
    rw [pk_un hi] at hx hy
    rw [pk_un (by omega), pk_un (by omega)]
    exact z4 q1 q2 x y x1 y1 hx hy
theorem wp_isTarget {post : Int32 → Prop} {k : Nat} {a : Int32} (hk : k ≤ 25) (hp : post (bI (tsB k a))) : wp_Nd_isTargetSo post (nI k) a := by
  have kq : ∀ j : Nat, j ≤ 25 → (nI k = nI j ↔ k = j) := fun j hj => nI_eq (by omega) (by omega)
  have in30 : (k = 17 ∨ k = 18) → (a < 1 → post 0) ∧ (¬ a < 1 → (30 < a → post 0) ∧ (¬ 30 < a → post 1)) := by
    intro q
    unfold tsB at hp
    rw [if_pos q] at hp
    refine ⟨fun c => ?_, fun c => ⟨fun c2 => ?_, fun c2 => ?_⟩⟩
    · rw [show decide (¬ a < 1) = false from by simp [c]] at hp; exact hp
    · rw [show decide (¬ 30 < a) = false from by simp [c2], Bool.and_false] at hp; exact hp
    · rw [show decide (¬ a < 1) = true from by simp [c], show decide (¬ 30 < a) = true from by simp [c2]] at hp; exact hp
  unfold wp_Nd_isTargetSo
  refine ⟨fun c => in30 (Or.inl ((kq 17 (by omega)).mp c)), fun c => ⟨fun c2 => ⟨fun c3 => ?_, fun c3 => ?_⟩, fun c2 => in30 (Or.inr ((kq 18 (by omega)).mp c2))⟩⟩
  · unfold tsB at hp
    rw [if_neg (fun q => q.elim (fun z => c ((kq 17 (by omega)).mpr z)) (fun z => c2 ((kq 18 (by omega)).mpr z))), if_neg (fun z => c3 ((kq 19 (by omega)).mpr z))] at hp
    exact hp
  · have := (kq 19 (by omega)).mp c3
    subst this
    unfold tsB at hp
    rw [if_neg (by omega), if_pos rfl] at hp
    refine ⟨fun q => ?_, fun q => ⟨fun q2 => ?_, fun q2 => ?_⟩⟩
    · rw [show (a == 0) = true from eq0P.mpr q, Bool.true_or] at hp; exact hp
    · rw [show (a == 0) = false from by simp [q], show (a == 1) = false from by simp [q2]] at hp; exact hp
    · rw [show (a == 1) = true from by simp [q2], Bool.or_true] at hp; exact hp
theorem vv_in {n k : Nat} {K : Nat → Int32} {cells : Nat} {a b : Int32} (hn : n ≤ 200) (h2 : 2 ≤ k) (h7 : k ≤ 7) (ha : mtB (tNA k) n K cells a = true) (hb : mtB (tNB k) n K cells b = true) :
    ∃ x y : Nat, 1 ≤ x ∧ x ≤ n ∧ 1 ≤ y ∧ y ≤ n ∧ a = nI x ∧ b = nI y ∧ isV (K x) = true ∧ isV (K y) = true := by
  have e1 : tNA k = 2 ∧ tNB k = 2 := by
    rcases (show k = 2 ∨ k = 3 ∨ k = 4 ∨ k = 5 ∨ k = 6 ∨ k = 7 by omega) with rfl | rfl | rfl | rfl | rfl | rfl <;> exact ⟨rfl, rfl⟩
  rw [e1.1, mt2] at ha
  rw [e1.2, mt2] at hb
  obtain ⟨x, x1, x2, x3, x4⟩ := kx_p hn (by decide) ha
  obtain ⟨y, y1, y2, y3, y4⟩ := kx_p hn (by decide) hb
  exact ⟨x, y, x1, x2, y1, y2, x3, y3, x4, y4⟩
def szF (Z : Nat → Int32) (k : Nat) (a b : Int32) : Int32 := if 2 ≤ k ∧ k ≤ 7 then 1 + Z a.toNatClampNeg + Z b.toNatClampNeg else 1
theorem wp_sizeWith {post : Int32 → Prop} {n k : Nat} {K Z : Nat → Int32} {cells : Nat} {a b : Int32} (hn : n ≤ 200) (hk : k ≤ 25) (ha : mtB (tNA k) n K cells a = true) (hb : mtB (tNB k) n K cells b = true) (hp : post (szF Z k a b)) : wp_Nd_sizeWith post (nI n) K Z (nI k) a b := by
  unfold wp_Nd_sizeWith
  unfold szF at hp
  rw [show (2 : Int32) = nI 2 from rfl, show (7 : Int32) = nI 7 from rfl, nI_ltI (by omega) (by omega), nI_ltI (by omega) (by omega)]
  refine ⟨fun c => ⟨fun _ => ?_, fun q => absurd rfl q⟩, fun c => ⟨fun c2 => ⟨fun _ => ?_, fun q => absurd rfl q⟩, fun c2 => ⟨fun q => absurd q (by decide), fun _ => ?_⟩⟩⟩
  · rwa [if_neg (by omega)] at hp
  · rwa [if_neg (by omega)] at hp
  · rw [if_pos (by omega)] at hp
    obtain ⟨x, y, x1, x2, y1, y2, rfl, rfl, x4, y4⟩ := vv_in hn (by omega) (by omega) ha hb
    refine wp_isValue hn ?_
    rw [kx_in x1 x2 hn, if_pos x4]
    refine ⟨fun q => absurd q (by decide), fun _ => wp_isValue hn ?_⟩
    rw [kx_in y1 y2 hn, if_pos y4]
    exact ⟨fun q => absurd q (by decide), fun _ => ⟨vp_in_nI (by omega) (by omega), vp_in_nI (by omega) (by omega), hp⟩⟩
theorem nat_k25 {k : Int32} (h : ¬ k < 0) (h2 : k ≤ 25) : ∃ q : Nat, q ≤ 25 ∧ k = nI q := by
  have e25 : (25 : Int32).toInt = 25 := by decide +kernel
  rw [i_lt, i_0] at h
  rw [i_le, e25] at h2
  refine ⟨k.toInt.toNat, by omega, ?_⟩
  rw [i_eq, i_nat (by omega)]; omega
