-- ===== what a new node needs, on both sides =====
def mtB (c : Int32) (n : Nat) (K : Nat → Int32) (cells : Nat) (x : Int32) : Bool :=
  if c = 1 then decide (¬ x < 0) && decide (¬ nI cells ≤ x)
  else if c = 2 then isV (kx n K x) else if c = 3 then isS (kx n K x) else if c = 4 then kx n K x == 13 else if c = 5 then kx n K x == 15
  else if c = 6 then x == 0 || kx n K x == 15 else if c = 7 then kx n K x == 16 else if c = 8 then x == 0 || (isV (kx n K x) || kx n K x == 8) else if c = 9 then x == 0 || isS (kx n K x) else true
def bI (b : Bool) : Int32 := if b then 1 else 0
theorem bI_01 (b : Bool) : bI b = 0 ∨ bI b = 1 := by cases b <;> simp [bI]
theorem bI_0 {b : Bool} : bI b = 0 ↔ b = false := by cases b <;> simp [bI]
theorem wp_meets {post : Int32 → Prop} {n : Nat} {K : Nat → Int32} {cells : Nat} {c x : Int32} (hn : n ≤ 200) (hp : post (bI (mtB c n K cells x))) : wp_Nd_meets post (nI n) K c x (nI cells) := by
  unfold wp_Nd_meets
  unfold mtB at hp
  have isE : ∀ (j : Int32), post (bI (kx n K x == j)) → wp_Nd_kindOf (fun r => (¬ r = j → post 0) ∧ (r = j → post 1)) (nI n) K x := by
    intro j h
    refine wp_kindOf hn ⟨fun q => ?_, fun q => ?_⟩
    · rw [show (kx n K x == j) = false from by simp [q]] at h; exact h
    · rw [show (kx n K x == j) = true from by simp [q]] at h; exact h
  refine ⟨fun k => ?_, fun k => ?_, fun k => ?_, fun k => ?_, fun k => ?_, fun k => ?_, fun k => ?_, fun k => ?_, fun k => ?_, fun k => ?_⟩
  · subst k
    rw [if_pos rfl] at hp
    refine ⟨fun q => ?_, fun q => ⟨fun q2 => ?_, fun q2 => ?_⟩⟩
    · simpa [bI, q] using hp
    · simpa [bI, q, q2] using hp
    · simpa [bI, q, q2] using hp
  · subst k
    rw [if_neg (by decide), if_pos rfl] at hp
    exact wp_isValue hn ⟨bI_01 _, hp⟩
  · subst k
    rw [if_neg (by decide), if_neg (by decide), if_pos rfl] at hp
    exact wp_isStatement hn ⟨bI_01 _, hp⟩
  · subst k
    rw [if_neg (by decide), if_neg (by decide), if_neg (by decide), if_pos rfl] at hp
    exact isE 13 hp
  · subst k
    rw [if_neg (by decide), if_neg (by decide), if_neg (by decide), if_neg (by decide), if_pos rfl] at hp
    exact isE 15 hp
  · subst k
    rw [if_neg (by decide), if_neg (by decide), if_neg (by decide), if_neg (by decide), if_neg (by decide), if_pos rfl] at hp
    refine ⟨fun q => ?_, fun q => isE 15 ?_⟩
    · simpa [bI, q] using hp
    · rw [show (x == 0) = false from by simp [q]] at hp; exact hp
  · subst k
    rw [if_neg (by decide), if_neg (by decide), if_neg (by decide), if_neg (by decide), if_neg (by decide), if_neg (by decide), if_pos rfl] at hp
    exact isE 16 hp
  · subst k
    rw [if_neg (by decide), if_neg (by decide), if_neg (by decide), if_neg (by decide), if_neg (by decide), if_neg (by decide), if_neg (by decide), if_pos rfl] at hp
    refine ⟨fun q => ?_, fun q => wp_isValue hn ⟨fun q2 => ?_, fun q2 => isE 8 ?_⟩⟩
    · simpa [bI, q] using hp
    · rw [show (x == 0) = false from by simp [q]] at hp
      cases hv : isV (kx n K x) with
      | false => rw [hv] at q2; exact absurd rfl q2
      | true => rw [hv] at hp; exact hp
    · rw [show (x == 0) = false from by simp [q]] at hp
      cases hv : isV (kx n K x) with
      | false => rw [hv] at hp; exact hp
      | true => rw [hv] at q2; exact absurd q2 (by decide)
  · subst k
    rw [if_neg (by decide), if_neg (by decide), if_neg (by decide), if_neg (by decide), if_neg (by decide), if_neg (by decide), if_neg (by decide), if_neg (by decide), if_pos rfl] at hp
    refine ⟨fun q => ?_, fun q => wp_isStatement hn ⟨fun q2 => ?_, fun q2 => ?_⟩⟩
    · simpa [bI, q] using hp
    · rw [show (x == 0) = false from by simp [q]] at hp
      cases hv : isS (kx n K x) with
      | false => rw [hv] at hp; exact hp
      | true => rw [hv] at q2; exact absurd q2 (by decide)
    · rw [show (x == 0) = false from by simp [q]] at hp
      cases hv : isS (kx n K x) with
      | false => rw [hv] at q2; exact absurd rfl q2
      | true => rw [hv] at hp; exact hp
  · obtain ⟨k1, k2, k3, k4, k5, k6, k7, k8, k9⟩ := k
    rw [if_neg k1, if_neg k2, if_neg k3, if_neg k4, if_neg k5, if_neg k6, if_neg k7, if_neg k8, if_neg k9] at hp
    exact hp
-- ===== the reference's looks at a node =====
def kOK (n : Nat) (K : Nat → Int32) : Prop := n ≤ 200 ∧ ∀ i : Nat, 1 ≤ i → i ≤ n → ∃ k : Nat, k ≤ 25 ∧ K i = nI k
theorem kOK_of {n : Nat} {K A B Z : Nat → Int32} {cells : Nat} (w : WFn n K A B Z cells) : kOK n K := ⟨w.1, fun i h1 h2 => by obtain ⟨k, hk, hK, -⟩ := w.2.2 i h1 h2; exact ⟨k, hk, hK⟩⟩
theorem kx_out {n : Nat} {K : Nat → Int32} {x : Int32} (h : x ≤ 0 ∨ nI n < x) : kx n K x = -1 := by
  unfold kx
  by_cases c : x < 1
  · rw [if_pos c]
  · rw [if_neg c]
    rcases h with h | h
    · exfalso
      rw [i_lt, i_1] at c
      rw [i_le, i_0] at h
      omega
    · rw [if_pos h]
theorem kx_nat {n : Nat} {K : Nat → Int32} {x : Int32} (hk : kOK n K) (h0 : ¬ x ≤ 0) (h1 : ¬ nI n < x) : ∃ i k : Nat, 1 ≤ i ∧ i ≤ n ∧ x = nI i ∧ k ≤ 25 ∧ K i = nI k ∧ kx n K x = nI k := by
  have hn := hk.1
  obtain ⟨i, i1, i2, rfl⟩ := nat_of1 (x := x) (n := n) (by rw [i_lt, i_1]; rw [i_le, i_0] at h0; omega) h1 (by omega)
  obtain ⟨k, k1, k2⟩ := hk.2 i i1 i2
  exact ⟨i, k, i1, i2, rfl, k1, k2, by rw [kx_in i1 i2 hn, k2]⟩
theorem isV_k : ∀ k : Nat, k ≤ 25 → isV (nI k) = decide (k < 8) := by
  intro k h
  have : ∀ k : Fin 26, isV (nI k.val) = decide (k.val < 8) := by decide +kernel
  exact this ⟨k, by omega⟩
theorem isS_k : ∀ k : Nat, k ≤ 25 → isS (nI k) = (decide (8 < k ∧ k < 13) || (k == 14 || decide (16 < k))) := by
  intro k h
  have : ∀ k : Fin 26, isS (nI k.val) = (decide (8 < k.val ∧ k.val < 13) || (k.val == 14 || decide (16 < k.val))) := by decide +kernel
  exact this ⟨k, by omega⟩
section RN
variable {th : Int32} {sn : Int64} {ce pa wa at' hi be ra ne is' fa : Int32} {re : Int64} {post : Int32 → Prop} {n : Nat} {K : Nat → Int32} {x : Int32}
theorem mo_isValue (hk : kOK n K) (hp : post (bI (isV (kx n K x)))) : wp_Mo_isValue post th sn ce (nI n) pa wa at' hi be ra ne is' re fa K x := by
  unfold wp_Mo_isValue
  refine ⟨fun c => ?_, fun c => ⟨fun c2 => ?_, fun c2 => ?_⟩⟩
  · rw [kx_out (Or.inl c)] at hp; exact hp
  · rw [kx_out (Or.inr c2)] at hp; exact hp
  · obtain ⟨i, k, i1, i2, rfl, k1, k2, k3⟩ := kx_nat hk c c2
    have hn := hk.1
    rw [k3, isV_k k k1] at hp
    rw [nI_clamp (by omega), k2, show (8 : Int32) = nI 8 from rfl, nI_leI (by omega) (by omega)]
    refine ⟨vp_in_nI (by omega) (by omega), fun q => ?_, fun q => ?_⟩
    · rw [show decide (k < 8) = false from by simp; omega] at hp; exact hp
    · rw [show decide (k < 8) = true from by simp; omega] at hp; exact hp
theorem mo_isKind (hk : kOK n K) {j : Nat} (hj : j ≤ 25) (hp : post (bI (kx n K x == nI j))) : wp_Mo_isKind post th sn ce (nI n) pa wa at' hi be ra ne is' re fa K x (nI j) := by
  unfold wp_Mo_isKind
  have hm : ((-1 : Int32) == nI j) = false := by
    have : ∀ j : Fin 26, ((-1 : Int32) == nI j.val) = false := by decide +kernel
    exact this ⟨j, by omega⟩
  refine ⟨fun c => ?_, fun c => ⟨fun c2 => ?_, fun c2 => ?_⟩⟩
  · rw [kx_out (Or.inl c), hm] at hp; exact hp
  · rw [kx_out (Or.inr c2), hm] at hp; exact hp
  · obtain ⟨i, k, i1, i2, rfl, k1, k2, k3⟩ := kx_nat hk c c2
    have hn := hk.1
    rw [k3] at hp
    rw [nI_clamp (by omega), k2]
    refine ⟨vp_in_nI (by omega) (by omega), fun q => ?_, fun q => ?_⟩
    · rw [show (nI k == nI j) = false from by simp [q]] at hp; exact hp
    · rw [show (nI k == nI j) = true from by simp [q]] at hp; exact hp
theorem mo_isStatement (hk : kOK n K) (hp : post (bI (isS (kx n K x)))) : wp_Mo_isStatement post th sn ce (nI n) pa wa at' hi be ra ne is' re fa K x := by
  unfold wp_Mo_isStatement
  refine ⟨fun c => ?_, fun c => ⟨fun c2 => ?_, fun c2 => ?_⟩⟩
  · rw [kx_out (Or.inl c)] at hp; exact hp
  · rw [kx_out (Or.inr c2)] at hp; exact hp
  · obtain ⟨i, k, i1, i2, rfl, k1, k2, k3⟩ := kx_nat hk c c2
    have hn := hk.1
    rw [k3, isS_k k k1] at hp
    have vi : vp_in (nI i) 201 := vp_in_nI (by omega) (by omega)
    have ci : (nI i).toNatClampNeg = i := nI_clamp (by omega)
    have j34 : wj_Mo_isStatement_34 post th sn ce (nI n) pa wa at' hi be ra ne is' re fa K (nI i) ↔ ((k = 14 → post 1) ∧ (¬ k = 14 → (k ≤ 16 → post 0) ∧ (¬ k ≤ 16 → post 1))) := by
      unfold wj_Mo_isStatement_34
      rw [ci, k2, show (14 : Int32) = nI 14 from rfl, show (16 : Int32) = nI 16 from rfl, nI_eq (by omega) (by omega), nI_leI (by omega) (by omega)]
      exact ⟨fun h => ⟨h.2.1, fun q => (h.2.2 q).2⟩, fun h => ⟨vi, h.1, fun q => ⟨vi, h.2 q⟩⟩⟩
    rw [ci, k2, show (8 : Int32) = nI 8 from rfl, show (13 : Int32) = nI 13 from rfl, nI_leI (by omega) (by omega), nI_ltI (by omega) (by omega), j34]
    have one : (8 < k ∧ k < 13) ∨ k = 14 ∨ 16 < k → post 1 := by
      intro q
      rw [show (decide (8 < k ∧ k < 13) || (k == 14 || decide (16 < k))) = true from by simp; omega] at hp
      exact hp
    have zero : ¬ ((8 < k ∧ k < 13) ∨ k = 14 ∨ 16 < k) → post 0 := by
      intro q
      rw [show (decide (8 < k ∧ k < 13) || (k == 14 || decide (16 < k))) = false from by simp; omega] at hp
      exact hp
    exact ⟨vi, fun q => ⟨fun z => one (by omega), fun z => ⟨fun y => zero (by omega), fun y => one (by omega)⟩⟩, fun q => ⟨vi, fun z => one (by omega), fun z => ⟨fun y => one (by omega), fun y => ⟨fun u => zero (by omega), fun u => one (by omega)⟩⟩⟩⟩
theorem mo_isCell {cells : Nat} {no : Int32} (hp : post (bI (decide (¬ x < 0) && decide (¬ nI cells ≤ x)))) : wp_Mo_isCell post th sn (nI cells) no pa wa at' hi be ra ne is' re fa x := by
  unfold wp_Mo_isCell
  refine ⟨fun q => ?_, fun q => ⟨fun q2 => ?_, fun q2 => ?_⟩⟩
  · simpa [bI, q] using hp
  · simpa [bI, q, q2] using hp
  · simpa [bI, q, q2] using hp
end RN
