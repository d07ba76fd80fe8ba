-- ===== numbers =====
theorem i_lt {x y : Int32} : x < y ↔ x.toInt < y.toInt := Int32.lt_iff_toInt_lt
theorem i_le {x y : Int32} : x ≤ y ↔ x.toInt ≤ y.toInt := Int32.le_iff_toInt_le
theorem i_eq {x y : Int32} : x = y ↔ x.toInt = y.toInt := ⟨fun h => by rw [h], fun h => Int32.toInt_inj.mp h⟩
theorem i_0 : (0 : Int32).toInt = 0 := by decide +kernel
theorem i_1 : (1 : Int32).toInt = 1 := by decide +kernel
theorem i_m1 : (-1 : Int32).toInt = -1 := by decide +kernel
theorem i_nat {k : Nat} (h : k < 2 ^ 31) : (nI k).toInt = (k : Int) := nI_toInt h
theorem i_cl {x : Int32} (h : 0 ≤ x.toInt) : (x.toNatClampNeg : Int) = x.toInt := by
  have : x.toNatClampNeg = x.toInt.toNat := rfl
  rw [this]; omega
/-- an index that the guards let through -/
theorem vp_of1 {x : Int32} {n N : Nat} (h1 : ¬ x < 1) (h2 : ¬ nI n < x) (hn : n < N) (hN : N < 2 ^ 31) : vp_in x N := by
  rw [i_lt, i_1] at h1
  rw [i_lt, i_nat (by omega)] at h2
  rw [vp_in_iff]; omega
theorem vp_of0 {x : Int32} {n N : Nat} (h1 : ¬ x < 0) (h2 : ¬ nI n ≤ x) (hn : n ≤ N) (hN : N < 2 ^ 31) : vp_in x N := by
  rw [i_lt, i_0] at h1
  rw [i_le, i_nat (by omega)] at h2
  rw [vp_in_iff]; omega
/-- a number of a node: which one -/
theorem nat_of1 {x : Int32} {n : Nat} (h1 : ¬ x < 1) (h2 : ¬ nI n < x) (hn : n < 2 ^ 31) : ∃ i : Nat, 1 ≤ i ∧ i ≤ n ∧ x = nI i := by
  rw [i_lt, i_1] at h1
  rw [i_lt, i_nat hn] at h2
  refine ⟨x.toInt.toNat, by omega, by omega, ?_⟩
  rw [i_eq, i_nat (by omega)]; omega
theorem nat_of0 {x : Int32} {n : Nat} (h1 : ¬ x < 0) (h2 : ¬ nI n ≤ x) (hn : n < 2 ^ 31) : ∃ i : Nat, i < n ∧ x = nI i := by
  rw [i_lt, i_0] at h1
  rw [i_le, i_nat hn] at h2
  refine ⟨x.toInt.toNat, by omega, ?_⟩
  rw [i_eq, i_nat (by omega)]; omega
-- ===== the kind of a node, as both sides look it up =====
def kx (n : Nat) (K : Nat → Int32) (x : Int32) : Int32 := if x < 1 then -1 else if nI n < x then -1 else K x.toNatClampNeg
def ax (n : Nat) (A : Nat → Int32) (x : Int32) : Int32 := if x < 1 then 0 else if nI n < x then 0 else A x.toNatClampNeg
theorem wp_kindOf {post : Int32 → Prop} {n : Nat} {K : Nat → Int32} {x : Int32} (hn : n ≤ 200) (hp : post (kx n K x)) : wp_Nd_kindOf post (nI n) K x := by
  unfold wp_Nd_kindOf; unfold kx at hp
  refine ⟨fun c => ?_, fun c => ⟨fun c2 => ?_, fun c2 => ⟨vp_of1 c c2 (by omega) (by omega), ?_⟩⟩⟩
  · rwa [if_pos c] at hp
  · rwa [if_neg c, if_pos c2] at hp
  · rwa [if_neg c, if_neg c2] at hp
theorem wp_aOf {post : Int32 → Prop} {n : Nat} {K : Nat → Int32} {x : Int32} (hn : n ≤ 200) (hp : post (ax n K x)) : wp_Nd_aOf post (nI n) K x := by
  unfold wp_Nd_aOf; unfold ax at hp
  refine ⟨fun c => ?_, fun c => ⟨fun c2 => ?_, fun c2 => ⟨vp_of1 c c2 (by omega) (by omega), ?_⟩⟩⟩
  · rwa [if_pos c] at hp
  · rwa [if_neg c, if_pos c2] at hp
  · rwa [if_neg c, if_neg c2] at hp
theorem wp_bOf {post : Int32 → Prop} {n : Nat} {K : Nat → Int32} {x : Int32} (hn : n ≤ 200) (hp : post (ax n K x)) : wp_Nd_bOf post (nI n) K x := by
  unfold wp_Nd_bOf; unfold ax at hp
  refine ⟨fun c => ?_, fun c => ⟨fun c2 => ?_, fun c2 => ⟨vp_of1 c c2 (by omega) (by omega), ?_⟩⟩⟩
  · rwa [if_pos c] at hp
  · rwa [if_neg c, if_pos c2] at hp
  · rwa [if_neg c, if_neg c2] at hp
theorem kx_in {n i : Nat} {K : Nat → Int32} (h1 : 1 ≤ i) (h2 : i ≤ n) (hn : n ≤ 200) : kx n K (nI i) = K i := by
  unfold kx
  rw [if_neg (by rw [i_lt, i_1, i_nat (by omega)]; omega), if_neg (by rw [i_lt, i_nat (by omega), i_nat (by omega)]; omega), nI_clamp (by omega)]
theorem ax_in {n i : Nat} {K : Nat → Int32} (h1 : 1 ≤ i) (h2 : i ≤ n) (hn : n ≤ 200) : ax n K (nI i) = K i := by
  unfold ax
  rw [if_neg (by rw [i_lt, i_1, i_nat (by omega)]; omega), if_neg (by rw [i_lt, i_nat (by omega), i_nat (by omega)]; omega), nI_clamp (by omega)]
theorem kx_0 {n : Nat} {K : Nat → Int32} : kx n K 0 = -1 := by unfold kx; rw [if_pos (by decide)]
/-- what a node's number is good for, by its kind -/
def isV (k : Int32) : Bool := decide (0 ≤ k) && decide (k < 8)
def isS (k : Int32) : Bool := decide (9 ≤ k) && (k != 13 && (k != 15 && k != 16))
theorem wp_isValue {post : Int32 → Prop} {n : Nat} {K : Nat → Int32} {x : Int32} (hn : n ≤ 200) (hp : post (if isV (kx n K x) then 1 else 0)) : wp_Nd_isValue post (nI n) K x := by
  unfold wp_Nd_isValue
  refine wp_kindOf hn ?_
  generalize kx n K x = k at hp ⊢
  have e0 : ∀ a b : Int32, a < b ↔ ¬ b ≤ a := fun a b => by rw [i_lt, i_le]; omega
  refine ⟨fun c => ?_, fun c => ⟨fun c2 => ?_, fun c2 => ?_⟩⟩
  · rwa [if_neg (by simp [isV]; intro h; exact absurd h ((e0 k 0).mp c))] at hp
  · rwa [if_neg (by simp [isV]; intro h; exact c2)] at hp
  · rwa [if_pos (by simp [isV]; exact ⟨Decidable.byContradiction fun q => c ((e0 k 0).mpr q), (e0 k 8).mpr c2⟩)] at hp
theorem wp_isStatement {post : Int32 → Prop} {n : Nat} {K : Nat → Int32} {x : Int32} (hn : n ≤ 200) (hp : post (if isS (kx n K x) then 1 else 0)) : wp_Nd_isStatement post (nI n) K x := by
  unfold wp_Nd_isStatement
  refine wp_kindOf hn ?_
  generalize kx n K x = k at hp ⊢
  have e0 : ∀ a b : Int32, a < b ↔ ¬ b ≤ a := fun a b => by rw [i_lt, i_le]; omega
  refine ⟨fun c => ?_, fun c => ⟨fun c2 => ?_, fun c2 => ⟨fun c3 => ?_, fun c3 => ⟨fun c4 => ?_, fun c4 => ?_⟩⟩⟩⟩
  · rwa [if_neg (by simp [isS]; intro h; exact absurd h ((e0 k 9).mp c))] at hp
  · rwa [if_neg (by simp [isS, c2])] at hp
  · rwa [if_neg (by simp [isS, c3])] at hp
  · rwa [if_neg (by simp [isS, c4])] at hp
  · rwa [if_pos (by simp [isS, c2, c3, c4]; exact Decidable.byContradiction fun q => c ((e0 k 9).mpr q))] at hp
