-- ===== walks over an abstract step: the stack's turns, and the way into the nodes =====
def drF : List Nat → List Nat
  | [] => []
  | x :: r => if x = 0 then r else drF r
section GW
variable {D : Type} (n pn : Nat) (K A B R : Nat → Int32) (en tg : D → Int32) (eW : D → D) (st : Nat → Nat → D → Int32 × D)
def folF (x : Nat) (r : List Nat) (c : Nat) (q : Int32 × D) : List Nat × Nat × D :=
  if 0 < q.1 then (q.1.toNatClampNeg :: r, c, q.2) else if q.1 = -1 then (drF r, c, q.2) else if q.1 = -2 then ([], (tg q.2).toNatClampNeg - 1, q.2) else if en q.2 = 0 then (x :: r, c, q.2) else (r, c, q.2)
def tnF : List Nat × Nat × D → List Nat × Nat × D
  | ([], c, d) => if c + 1 ≤ pn then (if R (c + 1) = 0 then ([], c + 1, d) else ([(R (c + 1)).toNatClampNeg], c + 1, d)) else ([], c + 1, eW d)
  | (x :: r, c, d) => if x = 0 then (r, c, d) else if K x = 10 then ((A x).toNatClampNeg :: (B x).toNatClampNeg :: r, c, d) else if K x = 22 then ((A x).toNatClampNeg :: 0 :: r, c, d) else folF en tg x r c (st x c d)
/-- one turn, if it is under way -/
def TN (x : List Nat × Nat × D) : List Nat × Nat × D := if en x.2.2 = 3 then tnF pn K A B R en tg eW st x else x
def TNs : Nat → List Nat × Nat × D → List Nat × Nat × D
  | 0, x => x
  | k + 1, x => TNs k (TN pn K A B R en tg eW st x)
/-- a stack that a walk may have -/
def SI : List Nat → Prop
  | [] => True
  | x :: r => (x = 0 ∨ (1 ≤ x ∧ x ≤ n ∧ isS (K x) = true)) ∧ x + r.length ≤ 200 ∧ r.length ≤ 199 ∧ SI r
/-- what is asked of the step: I is the invariant of what it changes -/
def SPok (I : D → Prop) : Prop :=
  (∀ d, I d → I (eW d) ∧ en (eW d) = 1) ∧
  ∀ (x c : Nat) (d : D), 1 ≤ x → x ≤ n → isS (K x) = true → 1 ≤ c → c ≤ pn → I d → en d = 3 →
    I (st x c d).2 ∧
    ((∃ y : Nat, (st x c d).1 = nI y ∧ 1 ≤ y ∧ y < x ∧ isS (K y) = true ∧ en (st x c d).2 = 3) ∨
     ((st x c d).1 = 0 ∧ en (st x c d).2 = 3) ∨ ((st x c d).1 = -1 ∧ en (st x c d).2 = 3) ∨
     ((st x c d).1 = -2 ∧ en (st x c d).2 = 3 ∧ ∃ q : Nat, 1 ≤ q ∧ q ≤ pn + 1 ∧ tg (st x c d).2 = nI q) ∨
     ((st x c d).1 = -3 ∧ ¬ en (st x c d).2 = 3))
/-- the nodes that matter to a walk -/
def WKn : Prop := n ≤ 200 ∧ pn ≤ 30 ∧ (∀ c : Nat, 1 ≤ c → c ≤ pn → R c = 0 ∨ ∃ y : Nat, R c = nI y ∧ 1 ≤ y ∧ y ≤ n ∧ isS (K y) = true) ∧
  (∀ x : Nat, 1 ≤ x → x ≤ n → K x = 10 → ∃ a b : Nat, A x = nI a ∧ B x = nI b ∧ 1 ≤ a ∧ a < x ∧ 1 ≤ b ∧ b < x ∧ isS (K a) = true ∧ isS (K b) = true) ∧
  (∀ x : Nat, 1 ≤ x → x ≤ n → K x = 22 → ∃ a : Nat, A x = nI a ∧ 1 ≤ a ∧ a < x ∧ isS (K a) = true)
theorem SI_dr {l : List Nat} (h : SI n K l) : SI n K (drF l) ∧ (drF l).length ≤ l.length := by
  induction l with
  | nil => exact ⟨trivial, Nat.le_refl _⟩
  | cons x r ih =>
    simp only [drF]
    by_cases c : x = 0
    · rw [if_pos c]; exact ⟨h.2.2.2, Nat.le_succ _⟩
    · rw [if_neg c]
      have := ih h.2.2.2
      exact ⟨this.1, Nat.le_succ_of_le this.2⟩
/-- where a walk may stand -/
def WI (I : D → Prop) (x : List Nat × Nat × D) : Prop := SI n K x.1 ∧ I x.2.2 ∧ (en x.2.2 = 3 → x.2.1 ≤ pn ∧ (¬ x.1 = [] → 1 ≤ x.2.1)) ∧ x.2.1 ≤ pn + 1
variable {n pn K A B R en tg eW st}
theorem TN_WI {I : D → Prop} (hw : WKn n pn K A B R) (hs : SPok n pn K en tg eW st I) {x : List Nat × Nat × D} (h : WI n pn K en I x) : WI n pn K en I (TN pn K A B R en tg eW st x) := by
  obtain ⟨l, c, d⟩ := x
  obtain ⟨hS, hI, hc, hc1⟩ := h
  simp only at hS hI hc hc1
  obtain ⟨hn, hp, hr, h10, h22⟩ := hw
  unfold TN
  by_cases he : en d = 3
  · rw [if_pos he]
    obtain ⟨c1, c2⟩ := hc he
    cases l with
    | nil =>
      simp only [tnF]
      by_cases h1 : c + 1 ≤ pn
      · rw [if_pos h1]
        rcases hr (c + 1) (by omega) h1 with q | ⟨y, q, y1, y2, y3⟩
        · rw [if_pos q]
          exact ⟨trivial, hI, fun _ => ⟨h1, fun q => absurd rfl q⟩, by simp only; omega⟩
        · rw [if_neg (by rw [q]; exact nI_ne0 y1 (by omega)), q, nI_clamp (by omega)]
          refine ⟨⟨Or.inr ⟨y1, y2, y3⟩, by simp only [List.length_nil]; omega, by simp, trivial⟩, hI, fun _ => ⟨h1, fun _ => by simp only; omega⟩, by simp only; omega⟩
      · rw [if_neg h1]
        refine ⟨trivial, (hs.1 d hI).1, fun q => ?_, by simp only; omega⟩
        simp only at q
        rw [(hs.1 d hI).2] at q
        exact absurd q (by decide)
    | cons x r =>
      have c2 := c2 (by simp)
      obtain ⟨g1, g2, g3, g4⟩ := hS
      simp only [tnF]
      by_cases h0 : x = 0
      · rw [if_pos h0]
        exact ⟨g4, hI, fun _ => ⟨c1, fun _ => c2⟩, hc1⟩
      · rw [if_neg h0]
        obtain ⟨x1, x2, x3⟩ := g1.resolve_left h0
        by_cases k10 : K x = 10
        · rw [if_pos k10]
          obtain ⟨a, b, hA, hB, a1, a2, b1, b2, a3, b3⟩ := h10 x x1 x2 k10
          rw [hA, hB, nI_clamp (by omega), nI_clamp (by omega)]
          refine ⟨⟨Or.inr ⟨a1, by omega, a3⟩, by simp only [List.length_cons]; omega, by simp only [List.length_cons]; omega, Or.inr ⟨b1, by omega, b3⟩, by omega, g3, g4⟩, hI, fun _ => ⟨c1, fun _ => c2⟩, hc1⟩
        · rw [if_neg k10]
          by_cases k22 : K x = 22
          · rw [if_pos k22]
            obtain ⟨a, hA, a1, a2, a3⟩ := h22 x x1 x2 k22
            rw [hA, nI_clamp (by omega)]
            refine ⟨⟨Or.inr ⟨a1, by omega, a3⟩, by simp only [List.length_cons]; omega, by simp only [List.length_cons]; omega, Or.inl rfl, by omega, g3, g4⟩, hI, fun _ => ⟨c1, fun _ => c2⟩, hc1⟩
          · rw [if_neg k22]
            obtain ⟨i1, i2⟩ := hs.2 x c d x1 x2 x3 c2 c1 hI he
            unfold folF
            rcases i2 with ⟨y, e1, y1, y2, y3, e2⟩ | ⟨e1, e2⟩ | ⟨e1, e2⟩ | ⟨e1, e2, q, q1, q2, q3⟩ | ⟨e1, e2⟩
            · rw [if_pos (by rw [e1, ← nI_0, nI_ltI (by omega) (by omega)]; omega), e1, nI_clamp (by omega)]
              exact ⟨⟨Or.inr ⟨y1, by omega, y3⟩, by omega, g3, g4⟩, i1, fun _ => ⟨c1, fun _ => c2⟩, hc1⟩
            · rw [if_neg (by rw [e1]; decide), if_neg (by rw [e1]; decide), if_neg (by rw [e1]; decide), if_neg (by rw [e2]; decide)]
              exact ⟨g4, i1, fun _ => ⟨c1, fun _ => c2⟩, hc1⟩
            · rw [if_neg (by rw [e1]; decide), if_pos e1]
              exact ⟨(SI_dr n K g4).1, i1, fun _ => ⟨c1, fun _ => c2⟩, hc1⟩
            · rw [if_neg (by rw [e1]; decide), if_neg (by rw [e1]; decide), if_pos e1, q3, nI_clamp (by omega)]
              exact ⟨trivial, i1, fun _ => ⟨by simp only; omega, fun q => absurd rfl q⟩, by simp only; omega⟩
            · rw [if_neg (by rw [e1]; decide), if_neg (by rw [e1]; decide), if_neg (by rw [e1]; decide)]
              by_cases e0 : en (st x c d).2 = 0
              · rw [if_pos e0]
                exact ⟨⟨g1, g2, g3, g4⟩, i1, fun q => absurd q e2, hc1⟩
              · rw [if_neg e0]
                exact ⟨g4, i1, fun q => absurd q e2, hc1⟩
  · rw [if_neg he]
    exact ⟨hS, hI, hc, hc1⟩
theorem TN_end {x : List Nat × Nat × D} (h : ¬ en x.2.2 = 3) : TN pn K A B R en tg eW st x = x := by
  unfold TN; rw [if_neg h]
theorem TNs_end {x : List Nat × Nat × D} (h : ¬ en x.2.2 = 3) : ∀ k, TNs pn K A B R en tg eW st k x = x := by
  intro k
  induction k with
  | zero => rfl
  | succ k ih => simp only [TNs]; rw [TN_end h]; exact ih
theorem TNs_add {x : List Nat × Nat × D} : ∀ (j k : Nat), TNs pn K A B R en tg eW st (j + k) x = TNs pn K A B R en tg eW st k (TNs pn K A B R en tg eW st j x) := by
  intro j
  induction j generalizing x with
  | zero => intro k; rw [Nat.zero_add]; rfl
  | succ j ih => intro k; rw [Nat.succ_add]; simp only [TNs]; exact ih k
theorem TNs_WI {I : D → Prop} (hw : WKn n pn K A B R) (hs : SPok n pn K en tg eW st I) : ∀ (k : Nat) {x : List Nat × Nat × D}, WI n pn K en I x → WI n pn K en I (TNs pn K A B R en tg eW st k x) := by
  intro k
  induction k with
  | zero => intro x h; exact h
  | succ k ih => intro x h; exact ih (TN_WI hw hs h)
/-- once ended, always the same -/
theorem TNs_stable {x : List Nat × Nat × D} {j : Nat} (h : ¬ en (TNs pn K A B R en tg eW st j x).2.2 = 3) : ∀ k, j ≤ k → TNs pn K A B R en tg eW st k x = TNs pn K A B R en tg eW st j x := by
  intro k hk
  obtain ⟨i, rfl⟩ : ∃ i, k = j + i := ⟨k - j, by omega⟩
  rw [TNs_add, TNs_end h]
-- ===== how long it may take =====
/-- between two steps -/
def phiW (x : List Nat × Nat × D) : Nat := match x.1 with
  | [] => 231 - x.2.1
  | y :: r => if y = 0 then 232 + r.length else y
theorem phi_le {I : D → Prop} {x : List Nat × Nat × D} (h : WI n pn K en I x) (hp : pn ≤ 30) (hn : n ≤ 200) : phiW x ≤ 431 := by
  obtain ⟨l, c, d⟩ := x
  obtain ⟨hS, -, -, -⟩ := h
  cases l with
  | nil => simp only [phiW]; omega
  | cons y r =>
    simp only [phiW]
    obtain ⟨g1, g2, g3, -⟩ := hS
    by_cases h0 : y = 0
    · rw [if_pos h0]; omega
    · rw [if_neg h0]; omega
end GW
