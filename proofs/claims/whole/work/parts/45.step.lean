-- ===== small methods of the class =====
theorem nx_xor (a b : Nat) : nI a ^^^ nI b = nI (a ^^^ b) := by
  apply Int32.toBitVec_inj.mp
  simp only [nI, Int32.toBitVec_xor, Int32.toBitVec_ofNat']
  exact (BitVec.ofNat_xor).symm
theorem wp_floorMod {post : Int32 → Prop} {t : Nat} (ht : t < 2 ^ 31) (hp : post (nI (t % 20))) : wp_Ma_floorMod post (nI t) 20 := by
  unfold wp_Ma_floorMod
  have e : nI t - nI t / 20 * 20 = nI (t % 20) := pk_rem (d := 20) ht (by omega) (by omega)
  have hx : (0 : Int32) ≤ nI t ^^^ 20 := by
    rw [show (20 : Int32) = nI 20 from rfl, nx_xor]
    exact nI_pos' (Nat.xor_lt_two_pow ht (by omega))
  exact ⟨by decide, fun _ => by rw [e]; exact hp, fun c => absurd hx c⟩
theorem nI_m20 (s m : Nat) : nI s * 20 + nI m = nI (20 * s + m) := by
  rw [show (20 : Int32) = nI 20 from rfl, pk_mul, nI_add, Nat.mul_comm]
/-- the answer that comes next to imperative s, 0 where none waits; and what is taken then -/
def ansF (aR aT T : Nat → Int32) (s : Nat) : Int32 := if 0 < aT s - T s then aR (20 * s + (T s).toNatClampNeg % 20) else 0
def tkF (aT T : Nat → Int32) (s : Nat) : Nat → Int32 := if 0 < aT s - T s then upd T s (T s + 1) else T
theorem wp_takeAnswer {post : Int32 → (Nat → Int32) → Prop} {aR aT T : Nat → Int32} {ce dz tg : Int32} {s t : Nat} (h2 : s ≤ 200) (hT : T s = nI t) (ht : t < 2 ^ 31) (hp : post (ansF aR aT T s) (tkF aT T s)) : wp_Sp_takeAnswer post aR aT ce T dz tg (nI s) := by
  have g0 : ¬ nI s < 0 := nI_pos (by omega)
  have g1 : ¬ (201 : Int32) ≤ nI s := by rw [show (201 : Int32) = nI 201 from rfl, nI_leI (by omega) (by omega)]; omega
  have g2 : nI s < 201 := by rw [show (201 : Int32) = nI 201 from rfl, nI_ltI (by omega) (by omega)]; omega
  have vs : vp_in (nI s) 201 := vp_in_nI (by omega) (by omega)
  have cs : (nI s).toNatClampNeg = s := nI_clamp (by omega)
  unfold wp_Sp_takeAnswer wp_Sc_takenOf
  refine ⟨fun c => absurd c g0, fun _ => ⟨fun c => absurd c g1, fun _ => ⟨vs, ?_⟩⟩⟩
  unfold wp_An_waiting
  refine ⟨fun c => absurd c g0, fun _ => ⟨fun c => absurd c g1, fun _ => ⟨vs, ?_⟩⟩⟩
  rw [cs]
  unfold ansF tkF at hp
  refine ⟨fun c => ?_, fun c => by rwa [if_neg c, if_neg c] at hp⟩
  rw [if_pos c, if_pos c] at hp
  unfold wp_Sc_take
  refine ⟨fun c => absurd c g0, fun _ => ⟨fun c => absurd c g1, fun _ => ⟨vs, vs, ?_⟩⟩⟩
  unfold wp_An_nextOf
  refine ⟨fun c => absurd c g0, fun _ => ⟨fun _ => ?_, fun c => absurd g2 c⟩⟩
  rw [hT] at hp ⊢
  rw [nI_clamp ht] at hp
  refine wp_floorMod ht ?_
  rw [nI_m20, nI_clamp (show 20 * s + t % 20 < 2 ^ 31 by omega), cs]
  rw [hT]
  exact ⟨vp_in_nI (by omega) (by omega), hp⟩
-- ===== sections =====
def lsF (S : Nat → Int32) (pn : Nat) : Nat → Nat → Nat
  | 0, q => q
  | d + 1, q => if q < pn ∧ S (q + 1) = S q then lsF S pn d (q + 1) else q
theorem lsF_le {S : Nat → Int32} {pn : Nat} : ∀ (d q : Nat), q ≤ pn → q ≤ lsF S pn d q ∧ lsF S pn d q ≤ pn := by
  intro d
  induction d with
  | zero => intro q h; exact ⟨Nat.le_refl _, h⟩
  | succ d ih =>
    intro q h
    simp only [lsF]
    by_cases c : q < pn ∧ S (q + 1) = S q
    · rw [if_pos c]
      have := ih (q + 1) c.1
      omega
    · rw [if_neg c]; omega
theorem wp_last {post : Int32 → Prop} {pn p : Nat} {S : Nat → Int32} (hpn : pn ≤ 30) (h1 : 1 ≤ p) (h2 : p ≤ pn) (hp : post (nI (lsF S pn 31 p))) : wp_Pg_lastOfSection post (nI pn) S (nI p) := by
  have key : ∀ (d q : Nat), q ≤ pn → 1 ≤ q → pn < q + d → S q = S p → post (nI (lsF S pn d q)) → wl_Pg_lastOfSection_16 post (nI pn) S d (nI p) (nI q) (nI (q + 1)) := by
    intro d
    induction d with
    | zero => intro q _ _ h; omega
    | succ d ih =>
      intro q hq hq1 hd hS hpo
      simp only [lsF] at hpo
      refine ⟨fun c => ?_, fun c => ⟨vp_of1 (n := pn) ?_ c (by omega) (by omega), vp_in_nI (by omega) (by omega), ?_⟩⟩
      · rw [nI_ltI (by omega) (by omega)] at c
        rwa [if_neg (by omega)] at hpo
      · rw [show (1 : Int32) = nI 1 from rfl, nI_ltI (by omega) (by omega)]; omega
      · rw [nI_ltI (by omega) (by omega)] at c
        rw [nI_clamp (show q + 1 < 2 ^ 31 by omega), nI_clamp (show p < 2 ^ 31 by omega), ← hS]
        refine ⟨fun c2 => ?_, fun c2 => ?_⟩
        · rwa [if_neg (fun h => c2 h.2)] at hpo
        · rw [if_pos ⟨by omega, c2⟩] at hpo
          rw [nI_1]
          exact ih (q + 1) (by omega) (by omega) (by omega) (c2.trans hS) hpo
  unfold wp_Pg_lastOfSection wp_Pg_has
  refine ⟨fun c => absurd c ?_, fun _ => ⟨fun c => absurd c ?_, fun _ => ⟨fun _ => ?_, fun c => absurd c (by decide)⟩⟩⟩
  · rw [show (1 : Int32) = nI 1 from rfl, nI_ltI (by omega) (by omega)]; omega
  · rw [nI_ltI (by omega) (by omega)]; omega
  · refine ⟨31, ?_⟩
    rw [nI_1]
    exact key 31 p h2 h1 (by omega) rfl hp
-- ===== one step, as a function =====
/-- the value that is reckoned: which node; 0 for none -/
def nvF (K A B : Nat → Int32) (s : Nat) : Int32 := if tNA (K s).toNatClampNeg = 2 then A s else if tNB (K s).toNatClampNeg = 2 then B s else 0
def valS (K A B : Nat → Int32) (V : Nat → Int64) (s : Nat) : Option (Int64 × Int32) :=
  (if nvF K A B s = 0 then some 0 else EV K A B V (nvF K A B s).toNatClampNeg).bind fun v => if K s = 14 then (ftF K A B V 200 (B s).toNatClampNeg v).bind fun c => some (v, c) else some (v, 0)
/-- what a step comes to: the way (as the class tells it), the target, the cells, what is raised, the result, the end -/
abbrev stOut : Type := Int32 × Int32 × (Nat → Int64) × Int32 × Int64 × Int32
def goR (pn : Nat) (V : Nat → Int64) (tg ra : Int32) (re : Int64) (q : Nat) : stOut := if 1 ≤ q ∧ q ≤ pn then (-2, nI q, V, ra, re, 3) else (0, tg, V, ra, re, 3)
def cutV (w : Int32) (v : Int64) : Int64 := v - v / tTN w.toNatClampNeg * tTN w.toNatClampNeg
def actR (K A B : Nat → Int32) (pn : Nat) (S W : Nat → Int32) (V : Nat → Int64) (ans tg ra : Int32) (re : Int64) (s p : Nat) (v : Int64) (c : Int32) : stOut :=
  if K s = 9 then (0, tg, vp_updL V (A s).toNatClampNeg (cutV (W (A s).toNatClampNeg) v), ra, re, 3)
  else if K s = 11 then (if v = 0 then 0 else B s, tg, V, ra, re, 3)
  else if K s = 12 then (if v = 0 then B (B s).toNatClampNeg else A (B s).toNatClampNeg, tg, V, ra, re, 3)
  else if K s = 14 then (c, tg, V, ra, re, 3)
  else if K s = 17 then goR pn V tg ra re (A s).toNatClampNeg
  else if K s = 18 then (if 1 ≤ v ∧ v ≤ 30 then goR pn V tg ra re ((A s).toNatClampNeg - 1 + v.toInt.toNat) else (0, tg, V, ra, re, 3))
  else if K s = 19 then (-2, nI ((if A s = 0 then p else lsF S pn 31 p) + 1), V, ra, re, 3)
  else if K s = 21 then (-1, tg, V, ra, re, 3)
  else if K s = 23 ∨ K s = 24 then (-3, tg, V, ra, v, 1)
  else if K s = 25 then (if ans = 0 then (B s, tg, V, ra, re, 3) else if ¬ A s = 0 then (A s, tg, V, ra, re, 3) else if ans < 5 then (0, tg, V, ra, re, 3) else (-3, tg, V, 10 + ans, re, 2))
  else (0, tg, V, ra, re, 3)
def stepR (K A B : Nat → Int32) (pn : Nat) (S W : Nat → Int32) (V : Nat → Int64) (ans tg ra : Int32) (re : Int64) (s p : Nat) : stOut :=
  match valS K A B V s with
  | none => (-3, tg, V, 1, re, 2)
  | some (v, c) => actR K A B pn S W V ans tg ra re s p v c
/-- the cells have their widths -/
def okW (cells : Nat) (W : Nat → Int32) : Prop := ∀ q : Nat, q < cells → ∃ d : Nat, 1 ≤ d ∧ d ≤ 18 ∧ W q = nI d
theorem tTN_pos : ∀ d : Nat, d ≤ 18 → 0 < tTN d ∧ ¬ tTN d = 0 := by
  intro d h
  rcases (show d = 0 ∨ d = 1 ∨ d = 2 ∨ d = 3 ∨ d = 4 ∨ d = 5 ∨ d = 6 ∨ d = 7 ∨ d = 8 ∨ d = 9 ∨ d = 10 ∨ d = 11 ∨ d = 12 ∨ d = 13 ∨ d = 14 ∨ d = 15 ∨ d = 16 ∨ d = 17 ∨ d = 18 by omega) with rfl | rfl | rfl | rfl | rfl | rfl | rfl | rfl | rfl | rfl | rfl | rfl | rfl | rfl | rfl | rfl | rfl | rfl | rfl <;> decide
theorem wp_keep {post : (Nat → Int64) → Prop} {cells q : Nat} {W : Nat → Int32} {V : Nat → Int64} {v : Int64} (hc : cells ≤ 40) (hq : q < cells) (hW : okW cells W) (hp : post (vp_updL V q (cutV (W q) v))) : wp_Sc_keep post (nI cells) W V (nI q) v := by
  obtain ⟨d, d1, d2, d3⟩ := hW q hq
  have vq : vp_in (nI q) 40 := vp_in_nI (by omega) (by omega)
  have cq : (nI q).toNatClampNeg = q := nI_clamp (by omega)
  unfold wp_Sc_keep
  refine ⟨fun c => absurd c (nI_pos (by omega)), fun _ => ⟨fun _ => ⟨vq, ?_⟩, fun c => absurd (by rw [nI_ltI (by omega) (by omega)]; omega) c⟩⟩
  rw [cq, d3]
  refine ⟨fun c => absurd c ?_, fun _ => ⟨fun c => absurd c ?_, fun _ => ⟨vp_in_nI (by omega) (by omega), fun x hx => ?_⟩⟩⟩
  · rw [show (1 : Int32) = nI 1 from rfl, nI_ltI (by omega) (by omega)]; omega
  · rw [show (18 : Int32) = nI 18 from rfl, nI_ltI (by omega) (by omega)]; omega
  · rw [nI_clamp (show d < 2 ^ 31 by omega)] at hx
    have ht := tTN_pos d d2
    refine ⟨fun c => ?_, fun _ => ⟨by rw [hx]; exact ht.2, vq, ?_⟩⟩
    · rw [lg_cmp_le, hx] at c
      exact absurd ht.1 (Int64.not_lt.mpr c)
    · unfold cutV at hp
      rw [d3, nI_clamp (show d < 2 ^ 31 by omega)] at hp
      rw [hx]; exact hp
theorem wp_goTo {post : Int32 → Int32 → Prop} {pn q : Nat} {dz tg ra : Int32} {re : Int64} {V : Nat → Int64} (hpn : pn ≤ 30) (hq : q < 2 ^ 30) (hp : post (goR pn V tg ra re q).1 (goR pn V tg ra re q).2.1) : wp_Sp_goTo post (nI pn) dz tg (nI q) := by
  unfold wp_Sp_goTo wp_Pg_has
  unfold goR at hp
  refine ⟨fun c => ?_, fun c => ⟨fun c2 => ?_, fun c2 => ?_⟩⟩
  · rw [show (1 : Int32) = nI 1 from rfl, nI_ltI (by omega) (by omega)] at c
    rw [if_neg (by omega)] at hp
    exact ⟨fun _ => hp, fun c => absurd rfl c⟩
  · rw [nI_ltI (by omega) (by omega)] at c2
    rw [if_neg (by omega)] at hp
    exact ⟨fun _ => hp, fun c => absurd rfl c⟩
  · rw [show (1 : Int32) = nI 1 from rfl, nI_ltI (by omega) (by omega)] at c
    rw [nI_ltI (by omega) (by omega)] at c2
    rw [if_pos (by omega)] at hp
    refine ⟨fun c => absurd c (by decide), fun _ => ?_⟩
    unfold wp_Sp_leaveBehind
    obtain ⟨r, rfl⟩ : ∃ r, q = r + 1 := ⟨q - 1, by omega⟩
    rw [nI_pred, nI_1]
    exact hp
theorem goR_rest {pn q : Nat} {tg ra : Int32} {re : Int64} {V : Nat → Int64} : (goR pn V tg ra re q).2.2 = (V, ra, re, 3) := by
  unfold goR
  by_cases h : 1 ≤ q ∧ q ≤ pn
  · rw [if_pos h]
  · rw [if_neg h]
