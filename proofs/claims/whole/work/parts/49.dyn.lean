-- ===== what a walk changes, and the class's step on it =====
abbrev Dyn : Type := (Nat → Int64) × (Nat → Int32) × Int32 × Int32 × Int32 × Int32 × Int32 × Int64 × (Nat → Int32) × Int32
def dEn (d : Dyn) : Int32 := d.2.2.2.2.1
def dTg (d : Dyn) : Int32 := d.2.2.2.2.2.2.2.2.2
def dLf (d : Dyn) : Nat := d.2.2.2.1.toNatClampNeg
def dEW (d : Dyn) : Dyn := (d.1, d.2.1, d.2.2.1, d.2.2.2.1, 1, d.2.2.2.2.2.1, d.2.2.2.2.2.2.1, 0, d.2.2.2.2.2.2.2.2.1, d.2.2.2.2.2.2.2.2.2)
def stD (K A B : Nat → Int32) (pn : Nat) (S W aR aT : Nat → Int32) (s p : Nat) (d : Dyn) : Int32 × Dyn :=
  match d with
  | (V, T, steps, left, _, pl, ra, re, jB, tg) =>
    if 0 < left then ((stepR K A B pn S W V (ansF aR aT T s) tg ra re s p).1, ((stepR K A B pn S W V (ansF aR aT T s) tg ra re s p).2.2.1, (if K s = 25 then tkF aT T s else T), steps + 1, left - 1, (stepR K A B pn S W V (ansF aR aT T s) tg ra re s p).2.2.2.2.2, pl, (stepR K A B pn S W V (ansF aR aT T s) tg ra re s p).2.2.2.1, (stepR K A B pn S W V (ansF aR aT T s) tg ra re s p).2.2.2.2.1, begB steps jB s, (stepR K A B pn S W V (ansF aR aT T s) tg ra re s p).2.1))
    else (-3, (V, T, steps, left, 0, nI s, ra, re, jB, tg))
/-- taken answers are told ones -/
def okT (aT T : Nat → Int32) : Prop := ∀ s : Nat, s ≤ 200 → ∃ t u : Nat, T s = nI t ∧ aT s = nI u ∧ t ≤ u ∧ u ≤ 1000000
def dI (aT : Nat → Int32) (d : Dyn) : Prop := okT aT d.2.1 ∧ ∃ k l : Nat, d.2.2.1 = nI k ∧ d.2.2.2.1 = nI l ∧ k + l ≤ 1000000000
theorem okT_tk {aT T : Nat → Int32} {s : Nat} (h : okT aT T) : okT aT (tkF aT T s) := by
  unfold tkF
  by_cases c : 0 < aT s - T s
  · rw [if_pos c]
    intro q hq
    obtain ⟨t, u, e1, e2, e3, e4⟩ := h q hq
    by_cases hqs : q = s
    · subst hqs
      rw [pk_us, e1, nI_1]
      refine ⟨t + 1, u, rfl, e2, ?_, e4⟩
      rw [e1, e2, pk_sub e3, ← nI_0, nI_ltI (by omega) (by omega)] at c
      omega
    · rw [pk_un hqs]
      exact ⟨t, u, e1, e2, e3, e4⟩
  · rw [if_neg c]; exact h
theorem ftF_res {n : Nat} {K A B Z : Nat → Int32} {V : Nat → Int64} {cells : Nat} (w : WFn n K A B Z cells) {v : Int64} : ∀ (d l : Nat) (c : Int32), isL K n l → ftF K A B V d l v = some c → c = 0 ∨ ∃ y : Nat, c = nI y ∧ 1 ≤ y ∧ y < l ∧ isS (K y) = true := by
  have hn := w.1
  intro d
  induction d with
  | zero => intro l c _ h; simp only [ftF] at h; cases h; exact Or.inl rfl
  | succ d ih =>
    intro l c hl h
    rcases hl with rfl | ⟨l1, l2, l3⟩
    · simp only [ftF, if_true] at h; cases h; exact Or.inl rfl
    · obtain ⟨q, r, s, q3, q1, q2, q4, r1, r2, r3, s3, s1, s2, s4, hx⟩ := list_cases w l1 l2 l3
      simp only [ftF, if_neg (show ¬ l = 0 by omega), q3, r1, nI_clamp (show q < 2 ^ 31 by omega), nI_clamp (show r < 2 ^ 31 by omega)] at h
      by_cases hz : A q = 0
      · rw [if_pos hz, s3] at h
        cases h
        exact Or.inr ⟨s, rfl, s1, by omega, s4⟩
      · rw [if_neg hz] at h
        cases hf : fitO K A B V (A q).toNatClampNeg v with
        | none => rw [hf] at h; cases h
        | some b =>
          rw [hf] at h
          cases b with
          | true =>
            simp only [Option.bind, if_true, s3] at h
            cases h
            exact Or.inr ⟨s, rfl, s1, by omega, s4⟩
          | false =>
            have h : ftF K A B V d r v = some c := h
            rcases ih r c r3 h with e | ⟨y, e, y1, y2, y3⟩
            · exact Or.inl e
            · exact Or.inr ⟨y, e, y1, by omega, y3⟩
/-- the ways that a step may take -/
def wayOK (pn : Nat) (K : Nat → Int32) (x : Nat) (o : stOut) : Prop :=
  (∃ y : Nat, o.1 = nI y ∧ 1 ≤ y ∧ y < x ∧ isS (K y) = true ∧ o.2.2.2.2.2 = 3) ∨ (o.1 = 0 ∧ o.2.2.2.2.2 = 3) ∨ (o.1 = -1 ∧ o.2.2.2.2.2 = 3) ∨
  (o.1 = -2 ∧ o.2.2.2.2.2 = 3 ∧ ∃ q : Nat, 1 ≤ q ∧ q ≤ pn + 1 ∧ o.2.1 = nI q) ∨ (o.1 = -3 ∧ ¬ o.2.2.2.2.2 = 3)
theorem goR_way {pn q x : Nat} {K : Nat → Int32} {V : Nat → Int64} {tg ra : Int32} {re : Int64} : wayOK pn K x (goR pn V tg ra re q) := by
  unfold goR
  by_cases h : 1 ≤ q ∧ q ≤ pn
  · rw [if_pos h]; exact Or.inr (Or.inr (Or.inr (Or.inl ⟨rfl, rfl, q, h.1, by omega, rfl⟩)))
  · rw [if_neg h]; exact Or.inr (Or.inl ⟨rfl, rfl⟩)
theorem stepR_way {n : Nat} {K A B Z : Nat → Int32} {V : Nat → Int64} {cells : Nat} (w : WFn n K A B Z cells) {pn s p : Nat} {S W : Nat → Int32} {ans tg ra : Int32} {re : Int64} (h1 : 1 ≤ s) (h2 : s ≤ n) (hp1 : 1 ≤ p) (hp2 : p ≤ pn) : wayOK pn K s (stepR K A B pn S W V ans tg ra re s p) := by
  have hn := w.1
  have ok := w.2.2 s h1 h2
  have thr : ∀ (V' : Nat → Int64), wayOK pn K s (0, tg, V', ra, re, 3) := fun V' => Or.inr (Or.inl ⟨rfl, rfl⟩)
  have into : ∀ y : Nat, 1 ≤ y → y < s → isS (K y) = true → wayOK pn K s (nI y, tg, V, ra, re, 3) := fun y y1 y2 y3 => Or.inl ⟨y, rfl, y1, y2, y3, rfl⟩
  have fin : ∀ (z : Int32) (r : Int64) (e : Int32), ¬ e = 3 → wayOK pn K s (-3, tg, V, z, r, e) := fun z r e he => Or.inr (Or.inr (Or.inr (Or.inr ⟨rfl, he⟩)))
  unfold stepR
  cases hv : valS K A B V s with
  | none => exact fin _ _ _ (by decide)
  | some vc =>
    obtain ⟨v, c⟩ := vc
    simp only
    unfold actR
    by_cases k9 : K s = 9
    · rw [if_pos k9]; exact thr _
    rw [if_neg k9]
    by_cases k11 : K s = 11
    · rw [if_pos k11]
      obtain ⟨-, hB, -⟩ := okN_k (c := 11) ok k11 (by omega)
      obtain ⟨y, y1, y2, y3, y4⟩ := hB.2.2.1 rfl
      by_cases hz : v = 0
      · rw [if_pos hz]; exact thr _
      · rw [if_neg hz, y3]; exact into y y1 y2 y4
    rw [if_neg k11]
    by_cases k12 : K s = 12
    · rw [if_pos k12]
      obtain ⟨-, hB, -⟩ := okN_k (c := 12) ok k12 (by omega)
      obtain ⟨b, b1, b2, b3, b4⟩ := hB.2.2.2.1 rfl
      have b4 : K b = 13 := by simpa using b4
      obtain ⟨hA2, hB2, -⟩ := okN_k (c := 13) (w.2.2 b b1 (by omega)) b4 (by omega)
      obtain ⟨y, y1, y2, y3, y4⟩ := hA2.2.2.1 rfl
      obtain ⟨z, z1, z2, z3, z4⟩ := hB2.2.2.1 rfl
      rw [b3, nI_clamp (by omega)]
      by_cases hz : v = 0
      · rw [if_pos hz, z3]; exact into z z1 (by omega) z4
      · rw [if_neg hz, y3]; exact into y y1 (by omega) y4
    rw [if_neg k12]
    by_cases k14 : K s = 14
    · rw [if_pos k14]
      obtain ⟨l, l1, l2, l3⟩ := eval_list w h1 h2 k14
      have hc : c = 0 ∨ ∃ y : Nat, c = nI y ∧ 1 ≤ y ∧ y < l ∧ isS (K y) = true := by
        unfold valS at hv
        generalize (if nvF K A B s = 0 then some 0 else EV K A B V (nvF K A B s).toNatClampNeg) = ov at hv
        cases ov with
        | none => cases hv
        | some v' =>
          simp only [Option.bind, if_pos k14, l1, nI_clamp (show l < 2 ^ 31 by omega)] at hv
          cases hf : ftF K A B V 200 l v' with
          | none => rw [hf] at hv; cases hv
          | some c' =>
            rw [hf] at hv
            cases hv
            exact ftF_res w 200 l c l3 hf
      rcases hc with rfl | ⟨y, rfl, y1, y2, y3⟩
      · exact thr _
      · exact into y y1 (by omega) y3
    rw [if_neg k14]
    by_cases k17 : K s = 17
    · rw [if_pos k17]; exact goR_way
    rw [if_neg k17]
    by_cases k18 : K s = 18
    · rw [if_pos k18]
      by_cases hz : 1 ≤ v ∧ v ≤ 30
      · rw [if_pos hz]; exact goR_way
      · rw [if_neg hz]; exact thr _
    rw [if_neg k18]
    by_cases k19 : K s = 19
    · rw [if_pos k19]
      refine Or.inr (Or.inr (Or.inr (Or.inl ⟨rfl, rfl, _, ?_, ?_, rfl⟩)))
      · omega
      · by_cases hz : A s = 0
        · rw [if_pos hz]; omega
        · rw [if_neg hz]
          have := (lsF_le (S := S) 31 p hp2).2
          omega
    rw [if_neg k19]
    by_cases k21 : K s = 21
    · rw [if_pos k21]; exact Or.inr (Or.inr (Or.inl ⟨rfl, rfl⟩))
    rw [if_neg k21]
    by_cases k23 : K s = 23 ∨ K s = 24
    · rw [if_pos k23]; exact fin _ _ _ (by decide)
    rw [if_neg k23]
    by_cases k25 : K s = 25
    · rw [if_pos k25]
      obtain ⟨hA, hB, -⟩ := okN_k (c := 25) ok k25 (by omega)
      by_cases a0 : ans = 0
      · rw [if_pos a0]
        rcases hB.2.2.2.2.2.2.2.2 rfl with e | ⟨y, y1, y2, y3, y4⟩
        · rw [e]; exact thr _
        · rw [y3]; exact into y y1 y2 y4
      · rw [if_neg a0]
        by_cases hz : A s = 0
        · rw [if_neg (not_not_intro hz)]
          by_cases a5 : ans < 5
          · rw [if_pos a5]; exact thr _
          · rw [if_neg a5]; exact fin _ _ _ (by decide)
        · rw [if_pos hz]
          obtain ⟨y, y1, y2, y3, y4⟩ := (hA.2.2.2.2.2.2.2.2 rfl).resolve_left hz
          rw [y3]; exact into y y1 y2 y4
    rw [if_neg k25]
    exact thr _
theorem SP_D {n : Nat} {K A B Z : Nat → Int32} {cells : Nat} (w : WFn n K A B Z cells) {pn : Nat} {S W aR aT : Nat → Int32} : SPok n pn K dEn dTg dEW (stD K A B pn S W aR aT) (dI aT) := by
  refine ⟨fun d h => ⟨h, rfl⟩, ?_⟩
  intro x c d x1 x2 x3 c1 c2 hI he
  obtain ⟨V, T, steps, left, e, pl, ra, re, jB, tg⟩ := d
  obtain ⟨hT, k, l, hk, hl, hkl⟩ := hI
  simp only at hT hk hl
  simp only [stD]
  by_cases h0 : 0 < left
  · rw [if_pos h0]
    refine ⟨⟨?_, k + 1, l - 1, ?_, ?_, ?_⟩, stepR_way w x1 x2 c1 c2⟩
    · show okT aT (if K x = 25 then tkF aT T x else T)
      by_cases k25 : K x = 25
      · rw [if_pos k25]; exact okT_tk hT
      · rw [if_neg k25]; exact hT
    · show steps + 1 = nI (k + 1)
      rw [hk, nI_1]
    · show left - 1 = nI (l - 1)
      rw [hl, ← nI_0, nI_ltI (by omega) (by omega)] at h0
      obtain ⟨l', rfl⟩ : ∃ z, l = z + 1 := ⟨l - 1, by omega⟩
      rw [hl, nI_pred, Nat.add_sub_cancel]
    · rw [hl, ← nI_0, nI_ltI (by omega) (by omega)] at h0
      omega
  · rw [if_neg h0]
    exact ⟨⟨hT, k, l, hk, hl, hkl⟩, Or.inr (Or.inr (Or.inr (Or.inr ⟨rfl, (by decide : ¬ (0 : Int32) = 3)⟩)))⟩
theorem LF_D {n : Nat} {K A B : Nat → Int32} {pn : Nat} {S W aR aT : Nat → Int32} : LFok n pn K dEn (stD K A B pn S W aR aT) (dI aT) dLf := by
  intro x c d x1 x2 x3 c1 c2 hI he hE
  obtain ⟨V, T, steps, left, e, pl, ra, re, jB, tg⟩ := d
  obtain ⟨hT, k, l, hk, hl, hkl⟩ := hI
  simp only at hT hk hl
  simp only [stD] at hE ⊢
  by_cases h0 : 0 < left
  · rw [if_pos h0]
    show (left - 1).toNatClampNeg + 1 ≤ left.toNatClampNeg
    rw [hl, ← nI_0, nI_ltI (by omega) (by omega)] at h0
    obtain ⟨l', rfl⟩ : ∃ z, l = z + 1 := ⟨l - 1, by omega⟩
    rw [hl, nI_pred, nI_clamp (by omega), nI_clamp (by omega)]
    exact Nat.le_refl _
  · rw [if_neg h0] at hE
    exact absurd (show (0 : Int32) = 3 from hE) (by decide)
theorem WK_of {n : Nat} {K A B Z R : Nat → Int32} {cells pn : Nat} (w : WFn n K A B Z cells) (hp : pn ≤ 30) (hR : ∀ c : Nat, 1 ≤ c → c ≤ pn → R c = 0 ∨ ∃ y : Nat, R c = nI y ∧ 1 ≤ y ∧ y ≤ n ∧ isS (K y) = true) : WKn n pn K A B R := by
  refine ⟨w.1, hp, hR, fun x x1 x2 k => ?_, fun x x1 x2 k => ?_⟩
  · obtain ⟨hA, hB, -⟩ := okN_k (c := 10) (w.2.2 x x1 x2) k (by omega)
    obtain ⟨a, a1, a2, a3, a4⟩ := hA.2.2.1 rfl
    obtain ⟨b, b1, b2, b3, b4⟩ := hB.2.2.1 rfl
    exact ⟨a, b, a3, b3, a1, a2, b1, b2, a4, b4⟩
  · obtain ⟨hA, -⟩ := okN_k (c := 22) (w.2.2 x x1 x2) k (by omega)
    obtain ⟨a, a1, a2, a3, a4⟩ := hA.2.2.1 rfl
    exact ⟨a, a3, a1, a2, a4⟩
