section GB
variable {D : Type} {n pn : Nat} {K A B R : Nat → Int32} {en tg : D → Int32} {eW : D → D} {st : Nat → Nat → D → Int32 × D}
/-- steps that are left: each step takes one -/
def LFok (n pn : Nat) (K : Nat → Int32) (en : D → Int32) (st : Nat → Nat → D → Int32 × D) (I : D → Prop) (lf : D → Nat) : Prop :=
  ∀ (x c : Nat) (d : D), 1 ≤ x → x ≤ n → isS (K x) = true → 1 ≤ c → c ≤ pn → I d → en d = 3 → en (st x c d).2 = 3 → lf (st x c d).2 + 1 ≤ lf d
def muW (en : D → Int32) (lf : D → Nat) (x : List Nat × Nat × D) : Nat := if en x.2.2 = 3 then 432 * lf x.2.2 + phiW x + 1 else 0
theorem mu_lt {I : D → Prop} {lf : D → Nat} (hw : WKn n pn K A B R) (hs : SPok n pn K en tg eW st I) (hl : LFok n pn K en st I lf) {x : List Nat × Nat × D} (h : WI n pn K en I x) (he : en x.2.2 = 3) : muW en lf (TN pn K A B R en tg eW st x) < muW en lf x := by
  have hWI := TN_WI hw hs h
  by_cases hE : en (TN pn K A B R en tg eW st x).2.2 = 3
  · have hphi := phi_le hWI hw.2.1 hw.1
    unfold muW
    rw [if_pos hE, if_pos he]
    obtain ⟨l, c, d⟩ := x
    obtain ⟨hS, hI, hc, hc1⟩ := h
    simp only at hS hI hc hc1 he
    obtain ⟨hn, hp, hr, h10, h22⟩ := hw
    obtain ⟨c1, c2⟩ := hc he
    unfold TN at hE hphi ⊢
    rw [if_pos he] at hE hphi ⊢
    cases l with
    | nil =>
      simp only [tnF] at hE hphi ⊢
      by_cases h1 : c + 1 ≤ pn
      · rw [if_pos h1] at hE hphi ⊢
        rcases hr (c + 1) (by omega) h1 with q | ⟨y, q, y1, y2, y3⟩
        · rw [if_pos q]
          simp only [phiW]; omega
        · rw [if_neg (by rw [q]; exact nI_ne0 y1 (by omega)), q, nI_clamp (by omega)]
          simp only [phiW, if_neg (show ¬ y = 0 by omega)]; omega
      · rw [if_neg h1] at hE
        simp only at hE
        rw [(hs.1 d hI).2] at hE
        exact absurd hE (by decide)
    | cons x r =>
      have c2 := c2 (by simp)
      obtain ⟨g1, g2, g3, g4⟩ := hS
      simp only [tnF] at hE hphi ⊢
      by_cases h0 : x = 0
      · rw [if_pos h0]
        cases r with
        | nil => simp only [phiW, if_pos h0]; simp only [List.length_nil]; omega
        | cons z r' =>
          simp only [phiW, if_pos h0, List.length_cons]
          obtain ⟨z1, z2, -⟩ := g4
          by_cases hz : z = 0
          · rw [if_pos hz]; omega
          · rw [if_neg hz]; omega
      · rw [if_neg h0] at hE hphi ⊢
        obtain ⟨x1, x2, x3⟩ := g1.resolve_left h0
        by_cases k10 : K x = 10
        · rw [if_pos k10]
          obtain ⟨a, b, hA, hB, a1, a2, b1, b2, a3, b3⟩ := h10 x x1 x2 k10
          rw [hA, hB, nI_clamp (by omega), nI_clamp (by omega)]
          simp only [phiW, if_neg h0, if_neg (show ¬ a = 0 by omega)]; omega
        · rw [if_neg k10] at hE hphi ⊢
          by_cases k22 : K x = 22
          · rw [if_pos k22]
            obtain ⟨a, hA, a1, a2, a3⟩ := h22 x x1 x2 k22
            rw [hA, nI_clamp (by omega)]
            simp only [phiW, if_neg h0, if_neg (show ¬ a = 0 by omega)]; omega
          · rw [if_neg k22] at hE hphi ⊢
            have hd : (folF en tg x r c (st x c d)).2.2 = (st x c d).2 := by
              unfold folF
              by_cases q1 : 0 < (st x c d).1
              · rw [if_pos q1]
              · rw [if_neg q1]
                by_cases q2 : (st x c d).1 = -1
                · rw [if_pos q2]
                · rw [if_neg q2]
                  by_cases q3 : (st x c d).1 = -2
                  · rw [if_pos q3]
                  · rw [if_neg q3]
                    by_cases q4 : en (st x c d).2 = 0
                    · rw [if_pos q4]
                    · rw [if_neg q4]
            rw [hd] at hE ⊢
            have := hl x c d x1 x2 x3 c2 c1 hI he hE
            omega
  · unfold muW
    rw [if_neg hE, if_pos he]
    omega
/-- it comes to an end -/
theorem mu_end {I : D → Prop} {lf : D → Nat} (hw : WKn n pn K A B R) (hs : SPok n pn K en tg eW st I) (hl : LFok n pn K en st I lf) : ∀ (m : Nat) {x : List Nat × Nat × D}, WI n pn K en I x → muW en lf x ≤ m → ¬ en (TNs pn K A B R en tg eW st m x).2.2 = 3 := by
  intro m
  induction m with
  | zero =>
    intro x h hm he
    simp only [TNs] at he
    unfold muW at hm
    rw [if_pos he] at hm
    omega
  | succ m ih =>
    intro x h hm
    simp only [TNs]
    by_cases he : en x.2.2 = 3
    · have := mu_lt hw hs hl h he
      exact ih (TN_WI hw hs h) (by omega)
    · rw [TN_end he, TNs_end he]; exact he
/-- after k turns under way the measure is less by k -/
theorem mu_k {I : D → Prop} {lf : D → Nat} (hw : WKn n pn K A B R) (hs : SPok n pn K en tg eW st I) (hl : LFok n pn K en st I lf) : ∀ (k : Nat) {x : List Nat × Nat × D}, WI n pn K en I x → en (TNs pn K A B R en tg eW st k x).2.2 = 3 → muW en lf (TNs pn K A B R en tg eW st k x) + k ≤ muW en lf x := by
  intro k
  induction k with
  | zero => intro x h he; exact Nat.le_refl _
  | succ k ih =>
    intro x h he
    simp only [TNs] at he ⊢
    have hx : en x.2.2 = 3 := by
      by_cases q : en x.2.2 = 3
      · exact q
      · rw [TN_end q, TNs_end q] at he; exact absurd he q
    have h1 := ih (TN_WI hw hs h) he
    have h2 := mu_lt hw hs hl h hx
    omega
-- ===== the way into the nodes =====
def goI (K A B : Nat → Int32) (st : Nat → Nat → D → Int32 × D) : Nat → Nat → Nat → D → Int32 × D
  | 0, _, _, d => (0, d)
  | f + 1, s, p, d =>
    if K s = 10 then (if (goI K A B st f (A s).toNatClampNeg p d).1 = 0 then goI K A B st f (B s).toNatClampNeg p (goI K A B st f (A s).toNatClampNeg p d).2 else goI K A B st f (A s).toNatClampNeg p d)
    else if K s = 22 then (if (goI K A B st f (A s).toNatClampNeg p d).1 = -1 then (0, (goI K A B st f (A s).toNatClampNeg p d).2) else goI K A B st f (A s).toNatClampNeg p d)
    else if 0 < (st s p d).1 then goI K A B st f (st s p d).1.toNatClampNeg p (st s p d).2 else st s p d
theorem goI_ok {I : D → Prop} (hw : WKn n pn K A B R) (hs : SPok n pn K en tg eW st I) : ∀ (f s p : Nat) (d : D) (r : List Nat), s < f → 1 ≤ s → s ≤ n → isS (K s) = true → 1 ≤ p → p ≤ pn → I d → en d = 3 →
    I (goI K A B st f s p d).2 ∧
    (((goI K A B st f s p d).1 = 0 ∧ en (goI K A B st f s p d).2 = 3 ∧ ∃ k, TNs pn K A B R en tg eW st (k + 1) (s :: r, p, d) = (r, p, (goI K A B st f s p d).2)) ∨
     ((goI K A B st f s p d).1 = -1 ∧ en (goI K A B st f s p d).2 = 3 ∧ ∃ k, TNs pn K A B R en tg eW st (k + 1) (s :: r, p, d) = (drF r, p, (goI K A B st f s p d).2)) ∨
     ((goI K A B st f s p d).1 = -2 ∧ en (goI K A B st f s p d).2 = 3 ∧ (∃ q : Nat, 1 ≤ q ∧ q ≤ pn + 1 ∧ tg (goI K A B st f s p d).2 = nI q) ∧ ∃ k, TNs pn K A B R en tg eW st (k + 1) (s :: r, p, d) = ([], (tg (goI K A B st f s p d).2).toNatClampNeg - 1, (goI K A B st f s p d).2)) ∨
     ((goI K A B st f s p d).1 = -3 ∧ ¬ en (goI K A B st f s p d).2 = 3 ∧ ∃ k l, TNs pn K A B R en tg eW st (k + 1) (s :: r, p, d) = (l, p, (goI K A B st f s p d).2))) := by
  intro f
  induction f with
  | zero => intro s p d r h; omega
  | succ f ih =>
    intro s p d r hsf s1 s2 s3 p1 p2 hI he
    obtain ⟨hn, hp, hr, h10, h22⟩ := id hw
    have s0 : ¬ s = 0 := by omega
    by_cases k10 : K s = 10
    · obtain ⟨a, b, hA, hB, a1, a2, b1, b2, a3, b3⟩ := h10 s s1 s2 k10
      have e1 : TN pn K A B R en tg eW st (s :: r, p, d) = (a :: b :: r, p, d) := by
        unfold TN
        rw [if_pos he]
        simp only [tnF]
        rw [if_neg s0, if_pos k10, hA, hB, nI_clamp (by omega), nI_clamp (by omega)]
      simp only [goI]
      rw [if_pos k10, hA, hB, nI_clamp (by omega), nI_clamp (by omega)]
      obtain ⟨iA, cA⟩ := ih a p d (b :: r) (by omega) a1 (by omega) a3 p1 p2 hI he
      rcases cA with ⟨w, e, k, hk⟩ | ⟨w, e, k, hk⟩ | ⟨w, e, q, k, hk⟩ | ⟨w, e, k, l, hk⟩
      · rw [if_pos w]
        obtain ⟨iB, cB⟩ := ih b p (goI K A B st f a p d).2 r (by omega) b1 (by omega) b3 p1 p2 iA e
        refine ⟨iB, ?_⟩
        have go : ∀ (k' : Nat) (y : List Nat × Nat × D), TNs pn K A B R en tg eW st (k' + 1) (b :: r, p, (goI K A B st f a p d).2) = y → TNs pn K A B R en tg eW st ((k + 1 + k' + 1) + 1) (s :: r, p, d) = y := by
          intro k' y hy
          rw [show TNs pn K A B R en tg eW st ((k + 1 + k' + 1) + 1) (s :: r, p, d) = TNs pn K A B R en tg eW st (k + 1 + k' + 1) (TN pn K A B R en tg eW st (s :: r, p, d)) from rfl, e1, show k + 1 + k' + 1 = (k + 1) + (k' + 1) by omega, TNs_add, hk, hy]
        rcases cB with ⟨w', e', k', hk'⟩ | ⟨w', e', k', hk'⟩ | ⟨w', e', q', k', hk'⟩ | ⟨w', e', k', l', hk'⟩
        · exact Or.inl ⟨w', e', _, go k' _ hk'⟩
        · exact Or.inr (Or.inl ⟨w', e', _, go k' _ hk'⟩)
        · exact Or.inr (Or.inr (Or.inl ⟨w', e', q', _, go k' _ hk'⟩))
        · exact Or.inr (Or.inr (Or.inr ⟨w', e', _, l', go k' _ hk'⟩))
      · rw [if_neg (by rw [w]; decide)]
        refine ⟨iA, Or.inr (Or.inl ⟨w, e, k + 1, ?_⟩)⟩
        rw [show TNs pn K A B R en tg eW st (k + 1 + 1) (s :: r, p, d) = TNs pn K A B R en tg eW st (k + 1) (TN pn K A B R en tg eW st (s :: r, p, d)) from rfl, e1, hk]
        simp only [drF, if_neg (show ¬ b = 0 by omega)]
      · rw [if_neg (by rw [w]; decide)]
        refine ⟨iA, Or.inr (Or.inr (Or.inl ⟨w, e, q, k + 1, ?_⟩))⟩
        rw [show TNs pn K A B R en tg eW st (k + 1 + 1) (s :: r, p, d) = TNs pn K A B R en tg eW st (k + 1) (TN pn K A B R en tg eW st (s :: r, p, d)) from rfl, e1, hk]
      · rw [if_neg (by rw [w]; decide)]
        refine ⟨iA, Or.inr (Or.inr (Or.inr ⟨w, e, k + 1, l, ?_⟩))⟩
        rw [show TNs pn K A B R en tg eW st (k + 1 + 1) (s :: r, p, d) = TNs pn K A B R en tg eW st (k + 1) (TN pn K A B R en tg eW st (s :: r, p, d)) from rfl, e1, hk]
    · by_cases k22 : K s = 22
      · obtain ⟨a, hA, a1, a2, a3⟩ := h22 s s1 s2 k22
        have e1 : TN pn K A B R en tg eW st (s :: r, p, d) = (a :: 0 :: r, p, d) := by
          unfold TN
          rw [if_pos he]
          simp only [tnF]
          rw [if_neg s0, if_neg k10, if_pos k22, hA, nI_clamp (by omega)]
        simp only [goI]
        rw [if_neg k10, if_pos k22, hA, nI_clamp (by omega)]
        obtain ⟨iA, cA⟩ := ih a p d (0 :: r) (by omega) a1 (by omega) a3 p1 p2 hI he
        have go : ∀ (k' : Nat) (y : List Nat × Nat × D), TNs pn K A B R en tg eW st k' (a :: 0 :: r, p, d) = y → TNs pn K A B R en tg eW st (k' + 1) (s :: r, p, d) = y := by
          intro k' y hy
          rw [show TNs pn K A B R en tg eW st (k' + 1) (s :: r, p, d) = TNs pn K A B R en tg eW st k' (TN pn K A B R en tg eW st (s :: r, p, d)) from rfl, e1, hy]
        rcases cA with ⟨w, e, k, hk⟩ | ⟨w, e, k, hk⟩ | ⟨w, e, q, k, hk⟩ | ⟨w, e, k, l, hk⟩
        · rw [if_neg (by rw [w]; decide)]
          refine ⟨iA, Or.inl ⟨w, e, k + 2, go (k + 2) _ ?_⟩⟩
          rw [show k + 2 = (k + 1) + 1 from rfl, TNs_add, hk]
          simp only [TNs]
          unfold TN
          rw [if_pos e]
          simp only [tnF, if_true]
        · rw [if_pos w]
          refine ⟨iA, Or.inl ⟨rfl, e, k + 1, go (k + 1) _ ?_⟩⟩
          rw [hk]
          simp only [drF, if_true]
        · rw [if_neg (by rw [w]; decide)]
          exact ⟨iA, Or.inr (Or.inr (Or.inl ⟨w, e, q, k + 1, go (k + 1) _ hk⟩))⟩
        · rw [if_neg (by rw [w]; decide)]
          exact ⟨iA, Or.inr (Or.inr (Or.inr ⟨w, e, k + 1, l, go (k + 1) _ hk⟩))⟩
      · have e1 : TN pn K A B R en tg eW st (s :: r, p, d) = folF en tg s r p (st s p d) := by
          unfold TN
          rw [if_pos he]
          simp only [tnF]
          rw [if_neg s0, if_neg k10, if_neg k22]
        obtain ⟨i1, i2⟩ := hs.2 s p d s1 s2 s3 p1 p2 hI he
        simp only [goI]
        rw [if_neg k10, if_neg k22]
        rcases i2 with ⟨y, w, y1, y2, y3, e2⟩ | ⟨w, e2⟩ | ⟨w, e2⟩ | ⟨w, e2, q, q1, q2, q3⟩ | ⟨w, e2⟩
        · have hpos : 0 < (st s p d).1 := by rw [w, ← nI_0, nI_ltI (by omega) (by omega)]; omega
          rw [if_pos hpos]
          have hcl : (st s p d).1.toNatClampNeg = y := by rw [w, nI_clamp (by omega)]
          rw [hcl]
          obtain ⟨iB, cB⟩ := ih y p (st s p d).2 r (by omega) y1 (by omega) y3 p1 p2 i1 e2
          have e3 : folF en tg s r p (st s p d) = (y :: r, p, (st s p d).2) := by unfold folF; rw [if_pos hpos, hcl]
          have go : ∀ (k' : Nat) (z : List Nat × Nat × D), TNs pn K A B R en tg eW st k' (y :: r, p, (st s p d).2) = z → TNs pn K A B R en tg eW st (k' + 1) (s :: r, p, d) = z := by
            intro k' z hz
            rw [show TNs pn K A B R en tg eW st (k' + 1) (s :: r, p, d) = TNs pn K A B R en tg eW st k' (TN pn K A B R en tg eW st (s :: r, p, d)) from rfl, e1, e3, hz]
          refine ⟨iB, ?_⟩
          rcases cB with ⟨w', e', k', hk'⟩ | ⟨w', e', k', hk'⟩ | ⟨w', e', q', k', hk'⟩ | ⟨w', e', k', l', hk'⟩
          · exact Or.inl ⟨w', e', _, go _ _ hk'⟩
          · exact Or.inr (Or.inl ⟨w', e', _, go _ _ hk'⟩)
          · exact Or.inr (Or.inr (Or.inl ⟨w', e', q', _, go _ _ hk'⟩))
          · exact Or.inr (Or.inr (Or.inr ⟨w', e', _, l', go _ _ hk'⟩))
        · rw [if_neg (by rw [w]; decide)]
          refine ⟨i1, Or.inl ⟨w, e2, 0, ?_⟩⟩
          simp only [TNs]
          rw [e1]
          unfold folF
          rw [if_neg (by rw [w]; decide), if_neg (by rw [w]; decide), if_neg (by rw [w]; decide), if_neg (by rw [e2]; decide)]
        · rw [if_neg (by rw [w]; decide)]
          refine ⟨i1, Or.inr (Or.inl ⟨w, e2, 0, ?_⟩)⟩
          simp only [TNs]
          rw [e1]
          unfold folF
          rw [if_neg (by rw [w]; decide), if_pos w]
        · rw [if_neg (by rw [w]; decide)]
          refine ⟨i1, Or.inr (Or.inr (Or.inl ⟨w, e2, ⟨q, q1, q2, q3⟩, 0, ?_⟩))⟩
          simp only [TNs]
          rw [e1]
          unfold folF
          rw [if_neg (by rw [w]; decide), if_neg (by rw [w]; decide), if_pos w]
        · rw [if_neg (by rw [w]; decide)]
          refine ⟨i1, Or.inr (Or.inr (Or.inr ⟨w, e2, 0, (if en (st s p d).2 = 0 then s :: r else r), ?_⟩))⟩
          simp only [TNs]
          rw [e1]
          unfold folF
          rw [if_neg (by rw [w]; decide), if_neg (by rw [w]; decide), if_neg (by rw [w]; decide)]
          by_cases e0 : en (st s p d).2 = 0
          · rw [if_pos e0, if_pos e0]
          · rw [if_neg e0, if_neg e0]
/-- from paragraph to paragraph -/
def gFw (pn : Nat) (K A B R : Nat → Int32) (en tg : D → Int32) (eW : D → D) (st : Nat → Nat → D → Int32 × D) : Nat → Nat → D → D
  | 0, _, d => d
  | f + 1, c, d => if en d = 3 then (if c ≤ pn then
      (if R c = 0 then gFw pn K A B R en tg eW st f (c + 1) d
       else gFw pn K A B R en tg eW st f (if (goI K A B st 202 (R c).toNatClampNeg c d).1 = -2 then (tg (goI K A B st 202 (R c).toNatClampNeg c d).2).toNatClampNeg else c + 1) (goI K A B st 202 (R c).toNatClampNeg c d).2)
      else eW d) else d
theorem gFw_ok {I : D → Prop} {lf : D → Nat} (hw : WKn n pn K A B R) (hs : SPok n pn K en tg eW st I) (hl : LFok n pn K en st I lf) :
    ∀ (m c : Nat) (d : D) (f : Nat), 1 ≤ c → WI n pn K en I ([], c - 1, d) → muW en lf ([], c - 1, d) ≤ m → m < f → ∃ N l c', TNs pn K A B R en tg eW st N ([], c - 1, d) = (l, c', gFw pn K A B R en tg eW st f c d) ∧ ¬ en (gFw pn K A B R en tg eW st f c d) = 3 := by
  intro m
  induction m using Nat.strongRecOn with
  | _ m ih =>
    intro c d f c1 hWI hm hf
    obtain ⟨f, rfl⟩ : ∃ e, f = e + 1 := ⟨f - 1, by omega⟩
    obtain ⟨hn, hp, hr, h10, h22⟩ := id hw
    simp only [gFw]
    by_cases he : en d = 3
    · rw [if_pos he]
      by_cases hc : c ≤ pn
      · rw [if_pos hc]
        have hTN : TN pn K A B R en tg eW st ([], c - 1, d) = (if R c = 0 then ([], c, d) else ([(R c).toNatClampNeg], c, d)) := by
          unfold TN
          rw [if_pos he]
          simp only [tnF]
          rw [show c - 1 + 1 = c by omega, if_pos hc]
        have step1 : ∀ (k : Nat) (y : List Nat × Nat × D), TNs pn K A B R en tg eW st k (TN pn K A B R en tg eW st ([], c - 1, d)) = y → TNs pn K A B R en tg eW st (k + 1) ([], c - 1, d) = y := fun k y h => h
        -- going on from a later place
        have on : ∀ (k c2 : Nat) (d2 : D), 1 ≤ c2 → TNs pn K A B R en tg eW st (k + 1) ([], c - 1, d) = ([], c2 - 1, d2) → en d2 = 3 → ∃ N l c', TNs pn K A B R en tg eW st N ([], c - 1, d) = (l, c', gFw pn K A B R en tg eW st f c2 d2) ∧ ¬ en (gFw pn K A B R en tg eW st f c2 d2) = 3 := by
          intro k c2 d2 h1 h2 h3
          have hW2 := TNs_WI hw hs (k + 1) hWI
          rw [h2] at hW2
          have hmu := mu_k hw hs hl (k + 1) hWI (by rw [h2]; exact h3)
          rw [h2] at hmu
          obtain ⟨N, l, c', e1, e2⟩ := ih (muW en lf ([], c2 - 1, d2)) (by omega) c2 d2 f h1 hW2 (Nat.le_refl _) (by omega)
          exact ⟨(k + 1) + N, l, c', by rw [TNs_add, h2, e1], e2⟩
        rcases hr c c1 hc with q | ⟨y, q, y1, y2, y3⟩
        · rw [if_pos q]
          rw [if_pos q] at hTN
          refine on 0 (c + 1) d (by omega) ?_ he
          simp only [TNs]
          rw [hTN]; rfl
        · have q0 : ¬ R c = 0 := by rw [q]; exact nI_ne0 y1 (by omega)
          rw [if_neg q0]
          rw [if_neg q0, q, nI_clamp (show y < 2 ^ 31 by omega)] at hTN
          rw [q, nI_clamp (show y < 2 ^ 31 by omega)]
          have hI : I d := hWI.2.1
          obtain ⟨iA, cA⟩ := goI_ok hw hs 202 y c d [] (by omega) y1 y2 y3 c1 hc hI he
          rcases cA with ⟨w, e, k, hk⟩ | ⟨w, e, k, hk⟩ | ⟨w, e, ⟨t, t1, t2, t3⟩, k, hk⟩ | ⟨w, e, k, l, hk⟩
          · rw [if_neg (by rw [w]; decide)]
            exact on (k + 1) (c + 1) _ (by omega) (step1 (k + 1) _ (by rw [hTN, hk]; rfl)) e
          · rw [if_neg (by rw [w]; decide)]
            exact on (k + 1) (c + 1) _ (by omega) (step1 (k + 1) _ (by rw [hTN, hk]; rfl)) e
          · rw [if_pos w]
            refine on (k + 1) _ _ ?_ (step1 (k + 1) _ (by rw [hTN, hk])) e
            rw [t3, nI_clamp (by omega)]; omega
          · rw [if_neg (by rw [w]; decide)]
            have hg : gFw pn K A B R en tg eW st f (c + 1) (goI K A B st 202 y c d).2 = (goI K A B st 202 y c d).2 := by
              cases f with
              | zero => rfl
              | succ f => simp only [gFw]; rw [if_neg e]
            rw [hg]
            exact ⟨k + 1 + 1, l, c, step1 (k + 1) _ (by rw [hTN, hk]), e⟩
      · rw [if_neg hc]
        refine ⟨1, [], c - 1 + 1, ?_, by rw [(hs.1 d hWI.2.1).2]; decide⟩
        simp only [TNs]
        unfold TN
        rw [if_pos he]
        simp only [tnF]
        rw [if_neg (by omega)]
    · rw [if_neg he]
      exact ⟨0, [], c - 1, rfl, he⟩
end GB
