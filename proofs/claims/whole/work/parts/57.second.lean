-- ===== rows beyond their ends hold 0 (so that copies are the same) =====
def zI (d : Dyn) : Prop := (∀ i : Nat, 40 ≤ i → d.1 i = 0) ∧ ∀ i : Nat, 201 ≤ i → d.2.1 i = 0
def dJ (aT : Nat → Int32) (d : Dyn) : Prop := dI aT d ∧ zI d
def Z40 (o : stOut) : Prop := ∀ i : Nat, 40 ≤ i → o.2.2.1 i = 0
theorem ite_Z {c : Prop} [Decidable c] {a b : stOut} (ha : c → Z40 a) (hb : Z40 b) : Z40 (if c then a else b) := by
  by_cases h : c
  · rw [if_pos h]; exact ha h
  · rw [if_neg h]; exact hb
theorem stepR_Z {n : Nat} {K A B Z : Nat → Int32} {V : Nat → Int64} {cells : Nat} (w : WFn n K A B Z cells) {pn s p : Nat} {S W : Nat → Int32} {ans tg ra : Int32} {re : Int64} (h1 : 1 ≤ s) (h2 : s ≤ n) (hV : ∀ i : Nat, 40 ≤ i → V i = 0) : Z40 (stepR K A B pn S W V ans tg ra re s p) := by
  have hc := w.2.1
  have e : ∀ (a b : Int32) (x : Int32) (y : Int64) (e : Int32), Z40 (a, b, V, x, y, e) := fun _ _ _ _ _ => hV
  have eg : ∀ q, Z40 (goR pn V tg ra re q) := fun q => by unfold goR; exact ite_Z (fun _ => e _ _ _ _ _) (e _ _ _ _ _)
  unfold stepR
  cases hv : valS K A B V s with
  | none => exact e _ _ _ _ _
  | some vc =>
    obtain ⟨v, c⟩ := vc
    show Z40 (actR K A B pn S W V ans tg ra re s p v c)
    unfold actR
    refine ite_Z (fun k => ?_) (ite_Z (fun _ => e _ _ _ _ _) (ite_Z (fun _ => e _ _ _ _ _) (ite_Z (fun _ => e _ _ _ _ _) (ite_Z (fun _ => eg _) (ite_Z (fun _ => ite_Z (fun _ => eg _) (e _ _ _ _ _)) (ite_Z (fun _ => e _ _ _ _ _) (ite_Z (fun _ => e _ _ _ _ _) (ite_Z (fun _ => e _ _ _ _ _) (ite_Z (fun _ => ite_Z (fun _ => e _ _ _ _ _) (ite_Z (fun _ => e _ _ _ _ _) (ite_Z (fun _ => e _ _ _ _ _) (e _ _ _ _ _)))) (e _ _ _ _ _))))))))))
    obtain ⟨hA, -⟩ := okN_k (c := 9) (w.2.2 s h1 h2) k (by omega)
    obtain ⟨q, q1, q2⟩ := hA.1 rfl
    intro i hi
    show vp_updL V (A s).toNatClampNeg _ i = 0
    rw [q2, nI_clamp (by omega), pk_uLn (by omega)]
    exact hV i hi
theorem SP_J {n : Nat} {K A B Z : Nat → Int32} {cells : Nat} (w : WFn n K A B Z cells) {pn : Nat} {S W aR aT : Nat → Int32} : SPok n pn K dEn dTg dEW (stD K A B pn S W aR aT) (dJ aT) := by
  have h := SP_D (S := S) (W := W) (aR := aR) (aT := aT) (pn := pn) w
  refine ⟨fun d hd => ⟨⟨(h.1 d hd.1).1, hd.2⟩, (h.1 d hd.1).2⟩, fun x c d x1 x2 x3 c1 c2 hd he => ?_⟩
  obtain ⟨g1, g2⟩ := h.2 x c d x1 x2 x3 c1 c2 hd.1 he
  refine ⟨⟨g1, ?_⟩, g2⟩
  have hn := w.1
  obtain ⟨V, T, steps, left, e, pl, ra, re, jB, tg⟩ := d
  obtain ⟨-, zV, zT⟩ := hd
  simp only at zV zT
  simp only [stD]
  by_cases h0 : 0 < left
  · rw [if_pos h0]
    refine ⟨stepR_Z w x1 x2 zV, fun i hi => ?_⟩
    show (if K x = 25 then tkF aT T x else T) i = 0
    by_cases k : K x = 25
    · rw [if_pos k]
      unfold tkF
      by_cases q : 0 < aT x - T x
      · rw [if_pos q, pk_un (by omega)]; exact zT i hi
      · rw [if_neg q]; exact zT i hi
    · rw [if_neg k]; exact zT i hi
  · rw [if_neg h0]; exact ⟨zV, zT⟩
theorem WI_mono {n pn : Nat} {K : Nat → Int32} {aT : Nat → Int32} {x : List Nat × Nat × Dyn} (h : WI n pn K dEn (dJ aT) x) : WI n pn K dEn (dI aT) x := ⟨h.1, h.2.1.1, h.2.2.1, h.2.2.2⟩
theorem cpy_eq {α : Type} {f g : Nat → α} {N : Nat} (h : ∀ i, N ≤ i → g i = f i) : va_cpy f g 0 0 N = f := by
  funext i
  by_cases hi : i < N
  · rw [pk_cpy_in (by omega) (by omega), Nat.zero_add, Nat.sub_zero]
  · rw [pk_cpy_out (by omega)]; exact h i (by omega)
-- ===== alike =====
theorem wp_scLike {post : Int32 → Prop} {ce ce2 : Int32} {V V2 : Nat → Int64} {T T2 : Nat → Int32} (hV : V = V2) (hT : T = T2) (hp : post 1) : wp_Sc_isLike post ce V T ce2 V2 T2 := by
  subst hV
  subst hT
  have k2 : ∀ (j i : Nat), i + j = 201 → wl_Sc_isLike_37 post ce V T ce2 V T (j + 1) (nI i) := by
    intro j
    induction j with
    | zero =>
      intro i hi
      refine ⟨fun _ => hp, fun c => absurd ?_ c⟩
      rw [show (201 : Int32) = nI 201 from rfl, nI_leI (by omega) (by omega)]; omega
    | succ j ih =>
      intro i hi
      have v : vp_in (nI i) 201 := vp_in_nI (by omega) (by omega)
      refine ⟨fun _ => hp, fun _ => ⟨v, v, fun _ => ?_, fun c => absurd rfl c⟩⟩
      rw [nI_1]; exact ih (i + 1) (by omega)
  have k1 : ∀ (j i : Nat), i + j = 40 → wl_Sc_isLike_2 post ce V T ce2 V T (j + 1) (nI i) := by
    intro j
    induction j with
    | zero =>
      intro i hi
      have h9 := k2 201 0 (by omega)
      rw [nI_0] at h9
      refine ⟨fun _ => ⟨_, h9⟩, fun c => absurd ?_ c⟩
      rw [show (40 : Int32) = nI 40 from rfl, nI_leI (by omega) (by omega)]; omega
    | succ j ih =>
      intro i hi
      have h9 := k2 201 0 (by omega)
      rw [nI_0] at h9
      have v : vp_in (nI i) 40 := vp_in_nI (by omega) (by omega)
      refine ⟨fun _ => ⟨_, h9⟩, fun _ => ⟨v, v, fun _ => ?_, fun c => absurd ((lg_cmp_eq _ _).mpr rfl) c⟩⟩
      rw [nI_1]; exact ih (i + 1) (by omega)
  have h9 := k1 40 0 (by omega)
  rw [nI_0] at h9
  exact ⟨_, h9⟩
theorem wp_joLike {post : Int32 → Prop} {d d' : Dyn} {k : Nat} (hk : d.2.2.1 = nI k) (hk2 : k < 2 ^ 31) (h : dE d d') (hp : post 1) : wp_Jo_isLike post d.2.2.1 d.2.2.2.1 d.2.2.2.2.1 d.2.2.2.2.2.1 d.2.2.2.2.2.2.1 d.2.2.2.2.2.2.2.1 d.2.2.2.2.2.2.2.2.1 d'.2.2.1 d'.2.2.2.1 d'.2.2.2.2.1 d'.2.2.2.2.2.1 d'.2.2.2.2.2.2.1 d'.2.2.2.2.2.2.2.1 d'.2.2.2.2.2.2.2.2.1 := by
  obtain ⟨V, T, steps, left, e, pl, ra, re, jB, tg⟩ := d
  obtain ⟨V', T', steps', left', e', pl', ra', re', jB', tg'⟩ := d'
  obtain ⟨rfl, rfl, rfl, rfl, rfl, rfl, rfl, hre, hjB⟩ := h
  simp only at hre hjB hk ⊢
  have key : ∀ (j i : Nat), i + j = 1000 → wl_Jo_isLike_70 post steps left e pl ra re jB steps left e pl ra re' jB' (j + 1) (nI i) := by
    intro j
    induction j with
    | zero =>
      intro i hi
      refine ⟨fun _ => hp, fun _ => ⟨fun _ => hp, fun c => absurd ?_ c⟩⟩
      rw [show (1000 : Int32) = nI 1000 from rfl, nI_leI (by omega) (by omega)]; omega
    | succ j ih =>
      intro i hi
      have v : vp_in (nI i) 1000 := vp_in_nI (by omega) (by omega)
      have ci : (nI i).toNatClampNeg = i := nI_clamp (by omega)
      refine ⟨fun _ => hp, fun c => ⟨fun _ => hp, fun c2 => ⟨v, ?_⟩⟩⟩
      refine ⟨fun q => absurd q (nI_pos (by omega)), fun _ => ⟨fun q => absurd q c, fun _ => ⟨fun q => absurd q c2, fun _ => ⟨v, fun _ => ?_, fun q => absurd ?_ q⟩⟩⟩⟩
      · rw [nI_1]; exact ih (i + 1) (by omega)
      · rw [ci]
        refine hjB i (by omega) ?_
        rw [hk, nI_leI (by omega) (by omega)] at c
        rw [hk, nI_clamp hk2]
        omega
  have h9 := key 1000 0 (by omega)
  rw [nI_0] at h9
  refine ⟨fun q => absurd rfl q, fun _ => ⟨fun q => absurd rfl q, fun _ => ⟨fun q => absurd rfl q, fun _ => ⟨fun _ => ⟨fun _ => ⟨_, h9⟩, fun q => ⟨fun _ => ⟨_, h9⟩, fun z => absurd ((lg_cmp_eq _ _).mpr (hre q)) z⟩⟩, fun q => absurd rfl q⟩⟩⟩⟩
