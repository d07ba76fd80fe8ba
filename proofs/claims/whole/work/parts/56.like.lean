-- ===== two journeys that differ in what is older =====
def dE (d d' : Dyn) : Prop := d.1 = d'.1 ∧ d.2.1 = d'.2.1 ∧ d.2.2.1 = d'.2.2.1 ∧ d.2.2.2.1 = d'.2.2.2.1 ∧ d.2.2.2.2.1 = d'.2.2.2.2.1 ∧ d.2.2.2.2.2.1 = d'.2.2.2.2.2.1 ∧ d.2.2.2.2.2.2.1 = d'.2.2.2.2.2.2.1 ∧
  (dEn d = 1 → d.2.2.2.2.2.2.2.1 = d'.2.2.2.2.2.2.2.1) ∧ ∀ i : Nat, i < 1000 → i < d.2.2.1.toNatClampNeg → d.2.2.2.2.2.2.2.2.1 i = d'.2.2.2.2.2.2.2.2.1 i
theorem dE_en {d d' : Dyn} (h : dE d d') : dEn d = dEn d' := h.2.2.2.2.1
/-- the step doesn't look at what is older -/
theorem stepR_E {K A B : Nat → Int32} {V : Nat → Int64} {pn s p : Nat} {S W : Nat → Int32} {ans ra : Int32} (tg tg' : Int32) (re re' : Int64) :
    (stepR K A B pn S W V ans tg ra re s p).1 = (stepR K A B pn S W V ans tg' ra re' s p).1 ∧ (stepR K A B pn S W V ans tg ra re s p).2.2.1 = (stepR K A B pn S W V ans tg' ra re' s p).2.2.1 ∧ (stepR K A B pn S W V ans tg ra re s p).2.2.2.1 = (stepR K A B pn S W V ans tg' ra re' s p).2.2.2.1 ∧
    (stepR K A B pn S W V ans tg ra re s p).2.2.2.2.2 = (stepR K A B pn S W V ans tg' ra re' s p).2.2.2.2.2 ∧
    ((stepR K A B pn S W V ans tg ra re s p).2.2.2.2.2 = 1 → (stepR K A B pn S W V ans tg ra re s p).2.2.2.2.1 = (stepR K A B pn S W V ans tg' ra re' s p).2.2.2.2.1) ∧
    (((stepR K A B pn S W V ans tg ra re s p).2.1 = tg ∧ (stepR K A B pn S W V ans tg' ra re' s p).2.1 = tg') ∨ (stepR K A B pn S W V ans tg ra re s p).2.1 = (stepR K A B pn S W V ans tg' ra re' s p).2.1) := by
  have h33 : ¬ (3 : Int32) = 1 := by decide
  have h23 : ¬ (2 : Int32) = 1 := by decide
  unfold stepR
  cases hv : valS K A B V s with
  | none => exact ⟨rfl, rfl, rfl, rfl, fun q => absurd q h23, Or.inl ⟨rfl, rfl⟩⟩
  | some vc =>
    obtain ⟨v, c⟩ := vc
    dsimp only
    unfold actR
    have go : ∀ q, (goR pn V tg ra re q).1 = (goR pn V tg' ra re' q).1 ∧ (goR pn V tg ra re q).2.2.1 = (goR pn V tg' ra re' q).2.2.1 ∧ (goR pn V tg ra re q).2.2.2.1 = (goR pn V tg' ra re' q).2.2.2.1 ∧ (goR pn V tg ra re q).2.2.2.2.2 = (goR pn V tg' ra re' q).2.2.2.2.2 ∧ ((goR pn V tg ra re q).2.2.2.2.2 = 1 → (goR pn V tg ra re q).2.2.2.2.1 = (goR pn V tg' ra re' q).2.2.2.2.1) ∧ (((goR pn V tg ra re q).2.1 = tg ∧ (goR pn V tg' ra re' q).2.1 = tg') ∨ (goR pn V tg ra re q).2.1 = (goR pn V tg' ra re' q).2.1) := by
      intro q
      unfold goR
      by_cases h : 1 ≤ q ∧ q ≤ pn
      · rw [if_pos h, if_pos h]; exact ⟨rfl, rfl, rfl, rfl, fun q => absurd q h33, Or.inr rfl⟩
      · rw [if_neg h, if_neg h]; exact ⟨rfl, rfl, rfl, rfl, fun q => absurd q h33, Or.inl ⟨rfl, rfl⟩⟩
    by_cases k9 : K s = 9
    · rw [if_pos k9, if_pos k9]; exact ⟨rfl, rfl, rfl, rfl, fun q => absurd q h33, Or.inl ⟨rfl, rfl⟩⟩
    rw [if_neg k9, if_neg k9]
    by_cases k11 : K s = 11
    · rw [if_pos k11, if_pos k11]; exact ⟨rfl, rfl, rfl, rfl, fun q => absurd q h33, Or.inl ⟨rfl, rfl⟩⟩
    rw [if_neg k11, if_neg k11]
    by_cases k12 : K s = 12
    · rw [if_pos k12, if_pos k12]; exact ⟨rfl, rfl, rfl, rfl, fun q => absurd q h33, Or.inl ⟨rfl, rfl⟩⟩
    rw [if_neg k12, if_neg k12]
    by_cases k14 : K s = 14
    · rw [if_pos k14, if_pos k14]; exact ⟨rfl, rfl, rfl, rfl, fun q => absurd q h33, Or.inl ⟨rfl, rfl⟩⟩
    rw [if_neg k14, if_neg k14]
    by_cases k17 : K s = 17
    · rw [if_pos k17, if_pos k17]; exact go _
    rw [if_neg k17, if_neg k17]
    by_cases k18 : K s = 18
    · rw [if_pos k18, if_pos k18]
      by_cases hz : 1 ≤ v ∧ v ≤ 30
      · rw [if_pos hz, if_pos hz]; exact go _
      · rw [if_neg hz, if_neg hz]; exact ⟨rfl, rfl, rfl, rfl, fun q => absurd q h33, Or.inl ⟨rfl, rfl⟩⟩
    rw [if_neg k18, if_neg k18]
    by_cases k19 : K s = 19
    · rw [if_pos k19, if_pos k19]; exact ⟨rfl, rfl, rfl, rfl, fun q => absurd q h33, Or.inr rfl⟩
    rw [if_neg k19, if_neg k19]
    by_cases k21 : K s = 21
    · rw [if_pos k21, if_pos k21]; exact ⟨rfl, rfl, rfl, rfl, fun q => absurd q h33, Or.inl ⟨rfl, rfl⟩⟩
    rw [if_neg k21, if_neg k21]
    by_cases k23 : K s = 23 ∨ K s = 24
    · rw [if_pos k23, if_pos k23]; exact ⟨rfl, rfl, rfl, rfl, fun _ => rfl, Or.inl ⟨rfl, rfl⟩⟩
    rw [if_neg k23, if_neg k23]
    by_cases k25 : K s = 25
    · rw [if_pos k25, if_pos k25]
      by_cases a0 : ans = 0
      · rw [if_pos a0, if_pos a0]; exact ⟨rfl, rfl, rfl, rfl, fun q => absurd q h33, Or.inl ⟨rfl, rfl⟩⟩
      · rw [if_neg a0, if_neg a0]
        by_cases az : ¬ A s = 0
        · rw [if_pos az, if_pos az]; exact ⟨rfl, rfl, rfl, rfl, fun q => absurd q h33, Or.inl ⟨rfl, rfl⟩⟩
        · rw [if_neg az, if_neg az]
          by_cases a5 : ans < 5
          · rw [if_pos a5, if_pos a5]; exact ⟨rfl, rfl, rfl, rfl, fun q => absurd q h33, Or.inl ⟨rfl, rfl⟩⟩
          · rw [if_neg a5, if_neg a5]; exact ⟨rfl, rfl, rfl, rfl, fun q => absurd q h23, Or.inl ⟨rfl, rfl⟩⟩
    rw [if_neg k25, if_neg k25]
    exact ⟨rfl, rfl, rfl, rfl, fun q => absurd q h33, Or.inl ⟨rfl, rfl⟩⟩
theorem stD_E {n : Nat} {K A B Z : Nat → Int32} {cells : Nat} (w : WFn n K A B Z cells) {pn : Nat} {S W aR aT : Nat → Int32} {x c : Nat} {d d' : Dyn} (h1 : 1 ≤ x) (h2 : x ≤ n) (c1 : 1 ≤ c) (c2 : c ≤ pn) (hpn : pn ≤ 30) (hI : dI aT d) (h3 : dEn d = 3) (h : dE d d') :
    (stD K A B pn S W aR aT x c d).1 = (stD K A B pn S W aR aT x c d').1 ∧ dE (stD K A B pn S W aR aT x c d).2 (stD K A B pn S W aR aT x c d').2 ∧ ((stD K A B pn S W aR aT x c d).1 = -2 → dTg (stD K A B pn S W aR aT x c d).2 = dTg (stD K A B pn S W aR aT x c d').2) := by
  obtain ⟨V, T, steps, left, e, pl, ra, re, jB, tg⟩ := d
  obtain ⟨V', T', steps', left', e', pl', ra', re', jB', tg'⟩ := d'
  obtain ⟨rfl, rfl, rfl, rfl, rfl, rfl, rfl, hre, hjB⟩ := h
  simp only at hre hjB
  obtain ⟨-, k, l, hk, hl, hkl⟩ := hI
  simp only at hk hl
  simp only [stD]
  by_cases h0 : 0 < left
  · rw [if_pos h0, if_pos h0]
    obtain ⟨e1, e2, e3, e4, e5, e6⟩ := stepR_E (K := K) (A := A) (B := B) (V := V) (pn := pn) (s := x) (p := c) (S := S) (W := W) (ans := ansF aR aT T x) (ra := ra) tg tg' re re'
    refine ⟨e1, ⟨e2, rfl, rfl, rfl, e4, rfl, e3, e5, fun i hi1 hi2 => ?_⟩, fun hm => ?_⟩
    · show begB steps jB x i = begB steps jB' x i
      have hi2 : i < (steps + 1).toNatClampNeg := hi2
      rw [hk, nI_1, nI_clamp (by omega)] at hi2
      rw [hk, nI_clamp (show k < 2 ^ 31 by omega)] at hjB
      unfold begB
      by_cases hs : steps < 1000
      · rw [if_pos hs, if_pos hs, hk, nI_clamp (by omega)]
        by_cases hik : i = k
        · subst hik; rw [pk_us, pk_us]
        · rw [pk_un hik, pk_un hik]; exact hjB i hi1 (by omega)
      · rw [if_neg hs, if_neg hs]
        rw [hk, show (1000 : Int32) = nI 1000 from rfl, nI_ltI (by omega) (by omega)] at hs
        exact hjB i hi1 (by omega)
    · -- the target is new
      have hm : (stepR K A B pn S W V (ansF aR aT T x) tg ra re x c).1 = -2 := hm
      have new : ∀ (t : Int32) (r : Int64), (stepR K A B pn S W V (ansF aR aT T x) t ra r x c).1 = -2 → (stepR K A B pn S W V (ansF aR aT T x) t ra r x c).2.1 = (stepR K A B pn S W V (ansF aR aT T x) (-5) ra 0 x c).2.1 := by
        intro t r ht
        obtain ⟨f1, -, -, -, -, f6⟩ := stepR_E (K := K) (A := A) (B := B) (V := V) (pn := pn) (s := x) (p := c) (S := S) (W := W) (ans := ansF aR aT T x) (ra := ra) t (-5) r 0
        rcases f6 with ⟨-, g⟩ | g
        · exfalso
          have hw := stepR_way (V := V) (S := S) (W := W) (ans := ansF aR aT T x) (tg := -5) (ra := ra) (re := 0) w h1 h2 c1 c2
          rw [ht] at f1
          have f1 := f1.symm
          unfold wayOK at hw
          rw [f1, g] at hw
          rcases hw with ⟨y, q1, q2, q3, -⟩ | ⟨q, -⟩ | ⟨q, -⟩ | ⟨-, -, q, q1, q2, q3⟩ | ⟨q, -⟩
          · have := congrArg Int32.toInt q1
            rw [i_nat (by have := w.1; omega), show (-2 : Int32).toInt = -2 by decide +kernel] at this
            omega
          · exact absurd q (by decide)
          · exact absurd q (by decide)
          · have := congrArg Int32.toInt q3
            rw [i_nat (by omega), show (-5 : Int32).toInt = -5 by decide +kernel] at this
            omega
          · exact absurd q (by decide)
        · exact g
      show (stepR K A B pn S W V (ansF aR aT T x) tg ra re x c).2.1 = (stepR K A B pn S W V (ansF aR aT T x) tg' ra re' x c).2.1
      rw [new tg re hm, new tg' re' (e1.symm.trans hm)]
  · rw [if_neg h0, if_neg h0]
    exact ⟨rfl, ⟨rfl, rfl, rfl, rfl, rfl, rfl, rfl, fun q => absurd (show (0 : Int32) = 1 from q) (by decide), hjB⟩, fun q => absurd (show (-3 : Int32) = -2 from q) (by decide)⟩
theorem TNs_E {n : Nat} {K A B Z R : Nat → Int32} {cells : Nat} (w : WFn n K A B Z cells) {pn : Nat} {S W aR aT : Nat → Int32} (hpn : pn ≤ 30) (hR : ∀ c : Nat, 1 ≤ c → c ≤ pn → R c = 0 ∨ ∃ y : Nat, R c = nI y ∧ 1 ≤ y ∧ y ≤ n ∧ isS (K y) = true) :
    ∀ (k : Nat) (l : List Nat) (c : Nat) (d d' : Dyn), WI n pn K dEn (dI aT) (l, c, d) → dE d d' →
      (TNs pn K A B R dEn dTg dEW (stD K A B pn S W aR aT) k (l, c, d)).1 = (TNs pn K A B R dEn dTg dEW (stD K A B pn S W aR aT) k (l, c, d')).1 ∧ (TNs pn K A B R dEn dTg dEW (stD K A B pn S W aR aT) k (l, c, d)).2.1 = (TNs pn K A B R dEn dTg dEW (stD K A B pn S W aR aT) k (l, c, d')).2.1 ∧ dE (TNs pn K A B R dEn dTg dEW (stD K A B pn S W aR aT) k (l, c, d)).2.2 (TNs pn K A B R dEn dTg dEW (stD K A B pn S W aR aT) k (l, c, d')).2.2 := by
  have hw := WK_of w hpn hR
  have hs : SPok n pn K dEn dTg dEW (stD K A B pn S W aR aT) (dI aT) := SP_D w
  intro k
  induction k with
  | zero => intro l c d d' _ h; exact ⟨rfl, rfl, h⟩
  | succ k ih =>
    intro l c d d' hWI h
    simp only [TNs]
    have hWI2 := TN_WI hw hs hWI
    have key : (TN pn K A B R dEn dTg dEW (stD K A B pn S W aR aT) (l, c, d)).1 = (TN pn K A B R dEn dTg dEW (stD K A B pn S W aR aT) (l, c, d')).1 ∧ (TN pn K A B R dEn dTg dEW (stD K A B pn S W aR aT) (l, c, d)).2.1 = (TN pn K A B R dEn dTg dEW (stD K A B pn S W aR aT) (l, c, d')).2.1 ∧ dE (TN pn K A B R dEn dTg dEW (stD K A B pn S W aR aT) (l, c, d)).2.2 (TN pn K A B R dEn dTg dEW (stD K A B pn S W aR aT) (l, c, d')).2.2 := by
      unfold TN
      dsimp only
      rw [← dE_en h]
      by_cases he : dEn d = 3
      · rw [if_pos he, if_pos he]
        obtain ⟨hSI, hI, hc, -⟩ := hWI
        simp only at hSI hI hc
        obtain ⟨c1, c2⟩ := hc he
        cases l with
        | nil =>
          simp only [tnF]
          by_cases h1 : c + 1 ≤ pn
          · rw [if_pos h1, if_pos h1]
            by_cases h2 : R (c + 1) = 0
            · rw [if_pos h2, if_pos h2]; exact ⟨rfl, rfl, h⟩
            · rw [if_neg h2, if_neg h2]; exact ⟨rfl, rfl, h⟩
          · rw [if_neg h1, if_neg h1]
            refine ⟨rfl, rfl, h.1, h.2.1, h.2.2.1, h.2.2.2.1, rfl, h.2.2.2.2.2.1, h.2.2.2.2.2.2.1, fun _ => rfl, h.2.2.2.2.2.2.2.2⟩
        | cons x r =>
          have c2 := c2 (by simp)
          simp only [tnF]
          by_cases h0 : x = 0
          · rw [if_pos h0, if_pos h0]; exact ⟨rfl, rfl, h⟩
          rw [if_neg h0, if_neg h0]
          by_cases k10 : K x = 10
          · rw [if_pos k10, if_pos k10]; exact ⟨rfl, rfl, h⟩
          rw [if_neg k10, if_neg k10]
          by_cases k22 : K x = 22
          · rw [if_pos k22, if_pos k22]; exact ⟨rfl, rfl, h⟩
          rw [if_neg k22, if_neg k22]
          obtain ⟨x1, x2, x3⟩ := hSI.1.resolve_left h0
          obtain ⟨e1, e2, e3⟩ := stD_E (S := S) (W := W) (aR := aR) w x1 x2 c2 c1 hpn hI he h
          unfold folF
          rw [← e1, ← dE_en e2]
          by_cases q1 : 0 < (stD K A B pn S W aR aT x c d).1
          · rw [if_pos q1, if_pos q1]; exact ⟨rfl, rfl, e2⟩
          rw [if_neg q1, if_neg q1]
          by_cases q2 : (stD K A B pn S W aR aT x c d).1 = -1
          · rw [if_pos q2, if_pos q2]; exact ⟨rfl, rfl, e2⟩
          rw [if_neg q2, if_neg q2]
          by_cases q3 : (stD K A B pn S W aR aT x c d).1 = -2
          · rw [if_pos q3, if_pos q3, e3 q3]; exact ⟨rfl, rfl, e2⟩
          rw [if_neg q3, if_neg q3]
          by_cases q4 : dEn (stD K A B pn S W aR aT x c d).2 = 0
          · rw [if_pos q4, if_pos q4]; exact ⟨rfl, rfl, e2⟩
          rw [if_neg q4, if_neg q4]; exact ⟨rfl, rfl, e2⟩
      · rw [if_neg he, if_neg he]; exact ⟨rfl, rfl, h⟩
    obtain ⟨k1, k2, k3⟩ := key
    generalize TN pn K A B R dEn dTg dEW (stD K A B pn S W aR aT) (l, c, d) = y at *
    generalize TN pn K A B R dEn dTg dEW (stD K A B pn S W aR aT) (l, c, d') = y' at *
    obtain ⟨a, b, f⟩ := y
    obtain ⟨a', b', f'⟩ := y'
    simp only at k1 k2
    subst k1
    subst k2
    exact ih a b f f' hWI2 k3
