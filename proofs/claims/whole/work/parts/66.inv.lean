-- ===== what holds between two calls, of class and reference =====
def RTok (n pn : Nat) (K R : Nat → Int32) : Prop := ∀ c : Nat, 1 ≤ c → c ≤ pn → R c = 0 ∨ ∃ y : Nat, R c = nI y ∧ 1 ≤ y ∧ y ≤ n ∧ isS (K y) = true
/-- a spent run: where it stands -/
def SPT (n pn : Nat) (K : Nat → Int32) (en wd wc : Int32) (wS : Nat → Int32) (at' hi : Int32) (P : Nat → Int32) : Prop :=
  en = 0 → ∃ (l : List Nat) (c : Nat), SI n K l ∧ c ≤ pn ∧ (¬ l = [] → 1 ≤ c) ∧ Stk wS l ∧ wd = nI l.length ∧ wc = nI c ∧ RStk P l ∧ hi = nI l.length ∧ at' = nI c
def ANS (j n : Nat) (aR aT T N Q : Nat → Int32) (wa : Int32) : Prop :=
  QR aR aT T N Q ∧ okT aT T ∧ (∀ s : Nat, s ≤ 200 → ∃ u : Nat, aT s = nI u ∧ u ≤ j) ∧ (∀ s : Nat, n < s → s ≤ 200 → T s = aT s) ∧ wa = wsm aT T n
def INV (j n cells pn st : Nat) (K A B Z R : Nat → Int32) (aR aT W : Nat → Int32) (V : Nat → Int64) (T : Nat → Int32) (steps en wd wc : Int32) (wS W2 : Nat → Int32) (V2 : Nat → Int64) (T2 W3 : Nat → Int32) (V3 : Nat → Int64) (T3 mW N Q P : Nat → Int32) (wa at' hi is' : Int32) : Prop :=
  WFn n K A B Z cells ∧ (pn ≤ 30 ∧ st ≤ 1000 ∧ RTok n pn K R) ∧ (okW cells W ∧ z40 W ∧ z40L V ∧ z201 T) ∧ (∀ i : Nat, 1 ≤ i → i ≤ n → isV (K i) = true → mW i = Z i) ∧ ANS j n aR aT T N Q wa ∧
  (∃ k : Nat, steps = nI k ∧ k ≤ 1000 * j) ∧ (z40 W2 ∧ z40L V2 ∧ z201 T2 ∧ z40 W3 ∧ z40L V3 ∧ z201 T3) ∧ (¬ en = 3 ∧ is' = (if en = 0 then 1 else 0) ∧ SPT n pn K en wd wc wS at' hi P)
section IV
variable {j n cells pn st : Nat} {K A B Z R aR aT W T wS W2 T2 W3 T3 mW N Q P : Nat → Int32} {V V2 V3 : Nat → Int64} {steps en wd wc wa at' hi is' : Int32}
theorem inv_mono (h : INV j n cells pn st K A B Z R aR aT W V T steps en wd wc wS W2 V2 T2 W3 V3 T3 mW N Q P wa at' hi is') : INV (j + 1) n cells pn st K A B Z R aR aT W V T steps en wd wc wS W2 V2 T2 W3 V3 T3 mW N Q P wa at' hi is' := by
  obtain ⟨i1, i2, i3, i4, ⟨a1, a2, a3, a4, a5⟩, ⟨k, k1, k2⟩, i7, i8⟩ := h
  exact ⟨i1, i2, i3, i4, ⟨a1, a2, fun s hs => by obtain ⟨u, u1, u2⟩ := a3 s hs; exact ⟨u, u1, by omega⟩, a4, a5⟩, ⟨k, k1, by omega⟩, i7, i8⟩
theorem inv_cell (h : INV j n cells pn st K A B Z R aR aT W V T steps en wd wc wS W2 V2 T2 W3 V3 T3 mW N Q P wa at' hi is') {d : Nat} {v : Int64} (hc : cells < 40) (d1 : 1 ≤ d) (d2 : d ≤ 18) :
    INV (j + 1) n (cells + 1) pn st K A B Z R aR aT (upd W cells (nI d)) (vp_updL V cells v) T steps en wd wc wS W2 V2 T2 W3 V3 T3 mW N Q P wa at' hi is' := by
  obtain ⟨i1, i2, ⟨b1, b2, b3, b4⟩, i4, i5, i6, i7, i8⟩ := inv_mono h
  refine ⟨WFn_cells i1 (by omega) (by omega), i2, ⟨fun q hq => ?_, fun i hi => ?_, fun i hi => ?_, b4⟩, i4, i5, i6, i7, i8⟩
  · by_cases hqc : q = cells
    · subst hqc; exact ⟨d, d1, d2, pk_us⟩
    · rw [pk_un hqc]; exact b1 q (by omega)
  · rw [pk_un (by omega)]; exact b2 i hi
  · rw [pk_uLn (by omega)]; exact b3 i hi
theorem SI_upd {k : Int32} : ∀ {l : List Nat}, SI n K l → SI (n + 1) (upd K (n + 1) k) l := by
  intro l
  induction l with
  | nil => intro _; trivial
  | cons x r ih =>
    intro h
    refine ⟨h.1.imp id (fun q => ⟨q.1, by omega, by rw [pk_un (by omega)]; exact q.2.2⟩), h.2.1, h.2.2.1, ih h.2.2.2⟩
theorem inv_node (h : INV j n cells pn st K A B Z R aR aT W V T steps en wd wc wS W2 V2 T2 W3 V3 T3 mW N Q P wa at' hi is') {k a b z w' : Int32} (hn : n < 200)
    (hw : WFn (n + 1) (upd K (n + 1) k) (upd A (n + 1) a) (upd B (n + 1) b) (upd Z (n + 1) z) cells) (hz : isV k = true → w' = z) :
    INV (j + 1) (n + 1) cells pn st (upd K (n + 1) k) (upd A (n + 1) a) (upd B (n + 1) b) (upd Z (n + 1) z) R aR aT W V T steps en wd wc wS W2 V2 T2 W3 V3 T3 (upd mW (n + 1) w') (upd N (n + 1) 0) Q P wa at' hi is' := by
  obtain ⟨i1, ⟨c1, c2, c3⟩, i3, i4, ⟨a1, a2, a3, a4, a5⟩, i6, i7, ⟨e1, e2, e3⟩⟩ := inv_mono h
  have hN : upd N (n + 1) 0 = N := by
    funext i
    by_cases hi : i = n + 1
    · subst hi
      rw [pk_us]
      obtain ⟨t, u, f1, f2, f3, f4, f5, f6, f7⟩ := a1 (n + 1) (by omega) (by omega)
      have := a4 (n + 1) (by omega) (by omega)
      rw [f1, f2, nI_eq (by omega) (by omega)] at this
      rw [f6, show u - t = 0 by omega, nI_0]
    · rw [pk_un hi]
  refine ⟨hw, ⟨c1, c2, fun c q1 q2 => ?_⟩, i3, fun i q1 q2 q3 => ?_, ⟨by rw [hN]; exact a1, a2, a3, fun s q1 q2 => a4 s (by omega) q2, ?_⟩, i6, i7, ⟨e1, e2, fun q => ?_⟩⟩
  · refine (c3 c q1 q2).imp id (fun q => ?_)
    obtain ⟨y, y1, y2, y3, y4⟩ := q
    exact ⟨y, y1, y2, by omega, by rw [pk_un (by omega)]; exact y4⟩
  · by_cases hi : i = n + 1
    · subst hi
      rw [pk_us] at q3
      rw [pk_us, pk_us]
      exact hz q3
    · rw [pk_un hi] at q3
      rw [pk_un hi, pk_un hi]
      exact i4 i q1 (by omega) q3
  · simp only [wsm]
    rw [a4 (n + 1) (by omega) (by omega), a5]
    apply Int32.toBitVec_inj.mp
    simp only [Int32.toBitVec_add, Int32.toBitVec_sub]
    rw [BitVec.sub_self, BitVec.add_zero]
  · obtain ⟨l, c, s1, s2⟩ := e3 q
    exact ⟨l, c, SI_upd s1, s2⟩
theorem inv_par (h : INV j n cells pn st K A B Z R aR aT W V T steps en wd wc wS W2 V2 T2 W3 V3 T3 mW N Q P wa at' hi is') {a1 : Int32} (hp : pn < 30) (ha : a1 = 0 ∨ ∃ y : Nat, a1 = nI y ∧ 1 ≤ y ∧ y ≤ n ∧ isS (K y) = true) :
    INV (j + 1) n cells (pn + 1) st K A B Z (upd R (pn + 1) a1) aR aT W V T steps en wd wc wS W2 V2 T2 W3 V3 T3 mW N Q P wa at' hi is' := by
  obtain ⟨i1, ⟨c1, c2, c3⟩, i3, i4, i5, i6, i7, ⟨e1, e2, e3⟩⟩ := inv_mono h
  refine ⟨i1, ⟨by omega, c2, fun c q1 q2 => ?_⟩, i3, i4, i5, i6, i7, ⟨e1, e2, fun q => ?_⟩⟩
  · by_cases hc : c = pn + 1
    · subst hc; rw [pk_us]; exact ha
    · rw [pk_un hc]; exact c3 c q1 (by omega)
  · obtain ⟨l, c, s1, s2, s3⟩ := e3 q
    exact ⟨l, c, s1, by omega, s3⟩
theorem inv_ans (h : INV j n cells pn st K A B Z R aR aT W V T steps en wd wc wS W2 V2 T2 W3 V3 T3 mW N Q P wa at' hi is') {i u : Nat} {aR' N' Q' : Nat → Int32} (hj : j ≤ 1000) (h1 : 1 ≤ i) (h2 : i ≤ n) (hu : aT i = nI u) (hQ : QR aR' (upd aT i (nI (u + 1))) T N' Q') :
    INV (j + 1) n cells pn st K A B Z R aR' (upd aT i (nI (u + 1))) W V T steps en wd wc wS W2 V2 T2 W3 V3 T3 mW N' Q' P (wa + 1) at' hi is' := by
  have hn := h.1.1
  obtain ⟨i1, i2, i3, i4, ⟨a1, a2, a3, a4, a5⟩, i6, i7, i8⟩ := h
  obtain ⟨k, k1, k2⟩ := i6
  obtain ⟨u', f1, f2⟩ := a3 i (by omega)
  have hm : nI u = nI u' := hu.symm.trans f1
  have hu1 : nI (u + 1) = nI (u' + 1) := by rw [← nI_1, ← nI_1, hm]
  rw [hu1] at hQ ⊢
  refine ⟨i1, i2, i3, i4, ⟨hQ, fun s hs => ?_, fun s hs => ?_, fun s q1 q2 => ?_, ?_⟩, ⟨k, k1, by omega⟩, i7, i8⟩
  · obtain ⟨t, v, e1, e2, e3, e4⟩ := a2 s hs
    by_cases hsi : s = i
    · subst hsi
      have hv : v = u' := by
        have e := f1.symm.trans e2
        rw [nI_eq (by omega) (by omega)] at e
        exact e.symm
      exact ⟨t, u' + 1, e1, pk_us, by omega, by omega⟩
    · exact ⟨t, v, e1, by rw [pk_un hsi]; exact e2, e3, e4⟩
  · by_cases hsi : s = i
    · subst hsi; exact ⟨u' + 1, pk_us, by omega⟩
    · obtain ⟨v, v1, v2⟩ := a3 s hs
      exact ⟨v, by rw [pk_un hsi]; exact v1, by omega⟩
  · rw [pk_un (by omega)]; exact a4 s q1 q2
  · rw [a5, ← nI_1, ← f1, wsm_tell h1 h2]
theorem inv_second (h : INV j n cells pn st K A B Z R aR aT W V T steps en wd wc wS W2 V2 T2 W3 V3 T3 mW N Q P wa at' hi is') {W2' T2' W3' T3' : Nat → Int32} {V2' V3' : Nat → Int64} (h1 : z40 W2') (h2 : z40L V2') (h3 : z201 T2') (h4 : z40 W3') (h5 : z40L V3') (h6 : z201 T3') :
    INV (j + 1) n cells pn st K A B Z R aR aT W V T steps en wd wc wS W2' V2' T2' W3' V3' T3' mW N Q P wa at' hi is' := by
  obtain ⟨i1, i2, i3, i4, i5, i6, i7, i8⟩ := inv_mono h
  exact ⟨i1, i2, i3, i4, i5, i6, ⟨h1, h2, h3, h4, h5, h6⟩, i8⟩
end IV
-- ===== what a walk keeps =====
def dK (n M : Nat) (aT : Nat → Int32) (d : Dyn) : Prop := dJ aT d ∧ (∀ s : Nat, n < s → s ≤ 200 → d.2.1 s = aT s) ∧ ∃ k l : Nat, d.2.2.1 = nI k ∧ d.2.2.2.1 = nI l ∧ k + l ≤ M
theorem SP_K {n M : Nat} {K A B Z : Nat → Int32} {cells : Nat} (w : WFn n K A B Z cells) (hM : M ≤ 1000000000) {pn : Nat} {S W aR aT : Nat → Int32} : SPok n pn K dEn dTg dEW (stD K A B pn S W aR aT) (dK n M aT) := by
  have h := SP_J (S := S) (W := W) (aR := aR) (aT := aT) (pn := pn) w
  refine ⟨fun d hd => ⟨⟨(h.1 d hd.1).1, hd.2⟩, (h.1 d hd.1).2⟩, fun x c d x1 x2 x3 c1 c2 hd he => ?_⟩
  obtain ⟨g1, g2⟩ := h.2 x c d x1 x2 x3 c1 c2 hd.1 he
  refine ⟨⟨g1, ?_⟩, g2⟩
  obtain ⟨V, T, steps, left, e, pl, ra, re, jB, tg⟩ := d
  obtain ⟨-, hT, k, l, hk, hl, hkl⟩ := hd
  simp only at hT hk hl
  simp only [stD]
  by_cases h0 : 0 < left
  · rw [if_pos h0]
    rw [hl, ← nI_0, nI_ltI (by omega) (by omega)] at h0
    obtain ⟨l', rfl⟩ : ∃ z, l = z + 1 := ⟨l - 1, by omega⟩
    refine ⟨fun s s1 s2 => ?_, k + 1, l', ?_, ?_, by omega⟩
    · show (if K x = 25 then tkF aT T x else T) s = aT s
      by_cases q : K x = 25
      · rw [if_pos q]
        unfold tkF
        by_cases q2 : 0 < aT x - T x
        · rw [if_pos q2, pk_un (by omega)]; exact hT s s1 s2
        · rw [if_neg q2]; exact hT s s1 s2
      · rw [if_neg q]; exact hT s s1 s2
    · show steps + 1 = nI (k + 1)
      rw [hk, nI_1]
    · show left - 1 = nI l'
      rw [hl, nI_pred]
  · rw [if_neg h0]
    exact ⟨hT, k, l, hk, hl, hkl⟩
def W0 (pn : Nat) (x : List Nat × Nat × Dyn) : Prop := dEn x.2.2 = 0 → x.2.1 ≤ pn ∧ (¬ x.1 = [] → 1 ≤ x.2.1)
theorem TN_W0 {n pn : Nat} {K A B R : Nat → Int32} {st : Nat → Nat → Dyn → Int32 × Dyn} {I : Dyn → Prop} (hs : SPok n pn K dEn dTg dEW st I) {x : List Nat × Nat × Dyn} (h : WI n pn K dEn I x) (h0 : W0 pn x) : W0 pn (TN pn K A B R dEn dTg dEW st x) := by
  obtain ⟨l, c, d⟩ := x
  obtain ⟨hS, hI, hc, hc1⟩ := h
  simp only at hS hI hc hc1
  unfold TN
  by_cases he : dEn d = 3
  · rw [if_pos he]
    obtain ⟨c1, c2⟩ := hc he
    have no : ∀ y : List Nat × Nat × Dyn, dEn y.2.2 = 3 → W0 pn y := fun y e q => absurd (e.symm.trans q) (by decide)
    cases l with
    | nil =>
      simp only [tnF]
      by_cases h1 : c + 1 ≤ pn
      · rw [if_pos h1]
        by_cases h2 : R (c + 1) = 0
        · rw [if_pos h2]; exact no _ he
        · rw [if_neg h2]; exact no _ he
      · rw [if_neg h1]
        intro q
        exact absurd ((hs.1 d hI).2.symm.trans q) (by decide)
    | cons x r =>
      have c2 := c2 (by simp)
      simp only [tnF]
      by_cases z0 : x = 0
      · rw [if_pos z0]; exact no _ he
      rw [if_neg z0]
      by_cases k10 : K x = 10
      · rw [if_pos k10]; exact no _ he
      rw [if_neg k10]
      by_cases k22 : K x = 22
      · rw [if_pos k22]; exact no _ he
      rw [if_neg k22]
      obtain ⟨x1, x2, x3⟩ := hS.1.resolve_left z0
      obtain ⟨i1, i2⟩ := hs.2 x c d x1 x2 x3 c2 c1 hI he
      unfold folF
      by_cases q1 : 0 < (st x c d).1
      · rw [if_pos q1]; exact fun _ => ⟨c1, fun _ => c2⟩
      rw [if_neg q1]
      by_cases q2 : (st x c d).1 = -1
      · rw [if_pos q2]; exact fun _ => ⟨c1, fun _ => c2⟩
      rw [if_neg q2]
      by_cases q3 : (st x c d).1 = -2
      · rw [if_pos q3]
        refine no _ ?_
        rcases i2 with ⟨y, w, y1, y2, y3, e2⟩ | ⟨w, e2⟩ | ⟨w, e2⟩ | ⟨w, e2, -⟩ | ⟨w, e2⟩
        · exact e2
        · exact e2
        · exact e2
        · exact e2
        · exact absurd (w.symm.trans q3) (by decide)
      rw [if_neg q3]
      by_cases q4 : dEn (st x c d).2 = 0
      · rw [if_pos q4]; exact fun _ => ⟨c1, fun _ => c2⟩
      · rw [if_neg q4]; exact fun _ => ⟨c1, fun _ => c2⟩
  · rw [if_neg he]; exact h0
theorem TNs_W0 {n pn : Nat} {K A B R : Nat → Int32} {st : Nat → Nat → Dyn → Int32 × Dyn} {I : Dyn → Prop} (hw : WKn n pn K A B R) (hs : SPok n pn K dEn dTg dEW st I) : ∀ (k : Nat) {x : List Nat × Nat × Dyn}, WI n pn K dEn I x → W0 pn x → W0 pn (TNs pn K A B R dEn dTg dEW st k x) := by
  intro k
  induction k with
  | zero => intro x _ h; exact h
  | succ k ih =>
    intro x h h0
    simp only [TNs]
    exact ih (TN_WI hw hs h) (TN_W0 hs h h0)
