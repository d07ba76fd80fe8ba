-- ===== second: always 1 where the paragraph is there =====
def z40 (f : Nat → Int32) : Prop := ∀ i : Nat, 40 ≤ i → f i = 0
def z40L (f : Nat → Int64) : Prop := ∀ i : Nat, 40 ≤ i → f i = 0
def z201 (f : Nat → Int32) : Prop := ∀ i : Nat, 201 ≤ i → f i = 0
theorem c_0 : (0 : Int32).toNatClampNeg = 0 := by decide +kernel
theorem c_40 : (40 : Int32).toNatClampNeg = 40 := by decide +kernel
theorem c_201 : (201 : Int32).toNatClampNeg = 201 := by decide +kernel
/-- a run's beginning -/
def begD (V : Nat → Int64) (T : Nat → Int32) (st : Nat) (re : Int64) (jB : Nat → Int32) (tg : Int32) : Dyn := (V, T, 0, nI st, 3, 0, 0, re, jB, tg)
theorem beg_WI {n pn : Nat} {K aT T jB : Nat → Int32} {V : Nat → Int64} {st p : Nat} {re : Int64} {tg : Int32} (hT : okT aT T) (hst : st ≤ 1000) (hp1 : 1 ≤ p) (hp2 : p ≤ pn) (hV : z40L V) (hT2 : z201 T) : WI n pn K dEn (dJ aT) (([], p - 1, begD V T st re jB tg) : List Nat × Nat × Dyn) :=
  ⟨trivial, ⟨⟨hT, 0, st, nI_0.symm, rfl, by omega⟩, hV, hT2⟩, fun _ => ⟨by simp only; omega, fun q => absurd rfl q⟩, by simp only; omega⟩
theorem beg_mu {V : Nat → Int64} {T jB : Nat → Int32} {st p : Nat} {re : Int64} {tg : Int32} (hst : st ≤ 1000) : muW dEn dLf (([], p - 1, begD V T st re jB tg) : List Nat × Nat × Dyn) ≤ 432232 := by
  unfold muW
  rw [if_pos (show dEn (([], p - 1, begD V T st re jB tg) : List Nat × Nat × Dyn).2.2 = 3 from rfl)]
  have e1 : dLf (([], p - 1, begD V T st re jB tg) : List Nat × Nat × Dyn).2.2 = st := nI_clamp (by omega)
  have e2 : phiW (([], p - 1, begD V T st re jB tg) : List Nat × Nat × Dyn) ≤ 231 := by simp only [phiW]; omega
  omega
theorem wp_second {n : Nat} {K A B Z : Nat → Int32} {cells : Nat} (w : WFn n K A B Z cells) {pn : Nat} {S W aR aT R : Nat → Int32} (hpn : pn ≤ 30) (hW : okW cells W) (hR : ∀ c : Nat, 1 ≤ c → c ≤ pn → R c = 0 ∨ ∃ y : Nat, R c = nI y ∧ 1 ≤ y ∧ y ≤ n ∧ isS (K y) = true)
    {V V2 V3 : Nat → Int64} {T W2 T2 W3 T3 jB2 jB3 wS2 : Nat → Int32} {st p : Nat} {c2 s2 l2 e2 p2 r2 dz2 tg2 wd2 wc2 c3 s3 l3 e3 p3 r3 dz3 tg3 : Int32} {re2 re3 : Int64}
    (hT : okT aT T) (hst : st ≤ 1000) (hp1 : 1 ≤ p) (hp2 : p ≤ pn) (zW : z40 W) (zV : z40L V) (zT : z201 T) (zW2 : z40 W2) (zV2 : z40L V2) (zT2 : z201 T2) (zW3 : z40 W3) (zV3 : z40L V3) (zT3 : z201 T3)
    {post : Int32 → Int32 → (Nat → Int32) → (Nat → Int64) → (Nat → Int32) → Int32 → Int32 → Int32 → Int32 → Int32 → Int64 → (Nat → Int32) → Int32 → Int32 → Int32 → Int32 → (Nat → Int32) → Int32 → (Nat → Int32) → (Nat → Int64) → (Nat → Int32) → Int32 → Int32 → Int32 → Int32 → Int32 → Int64 → (Nat → Int32) → Int32 → Int32 → Prop}
    (hp : ∀ (a1 : Int32) (a2 : Nat → Int32) (a3 : Nat → Int64) (a4 : Nat → Int32) (a5 a6 a7 a8 a9 : Int32) (a10 : Int64) (a11 : Nat → Int32) (a12 a13 a14 a15 : Int32) (a16 : Nat → Int32) (b1 : Int32) (b2 : Nat → Int32) (b3 : Nat → Int64) (b4 : Nat → Int32) (b5 b6 b7 b8 b9 : Int32) (b10 : Int64) (b11 : Nat → Int32) (b12 b13 : Int32),
      z40 a2 → z40L a3 → z201 a4 → z40 b2 → z40L b3 → z201 b4 → post 1 a1 a2 a3 a4 a5 a6 a7 a8 a9 a10 a11 a12 a13 a14 a15 a16 b1 b2 b3 b4 b5 b6 b7 b8 b9 b10 b11 b12 b13) :
    wp_Pw_second post (nI n) K A B (nI pn) R S aR aT (nI cells) W V T c2 W2 V2 T2 s2 l2 e2 p2 r2 re2 jB2 dz2 tg2 wd2 wc2 wS2 c3 W3 V3 T3 s3 l3 e3 p3 r3 re3 jB3 dz3 tg3 (nI st) (nI p) := by
  obtain ⟨NN, hNN⟩ : ∃ z : Nat, z = 432232 := ⟨_, rfl⟩
  have hw := WK_of w hpn hR
  have hsJ : SPok n pn K dEn dTg dEW (stD K A B pn S W aR aT) (dJ aT) := SP_J w
  have hsI : SPok n pn K dEn dTg dEW (stD K A B pn S W aR aT) (dI aT) := SP_D w
  have hl : LFok n pn K dEn (stD K A B pn S W aR aT) (dI aT) dLf := LF_D
  have x2W := beg_WI (n := n) (K := K) (re := re2) (jB := jB2) (tg := tg2) hT hst hp1 hp2 zV zT
  have x3W := beg_WI (n := n) (K := K) (re := re3) (jB := jB3) (tg := tg3) hT hst hp1 hp2 zV zT
  have m2 : _ ≤ NN := hNN ▸ beg_mu (V := V) (T := T) (re := re2) (jB := jB2) (tg := tg2) (p := p) hst
  have m3 : _ ≤ NN := hNN ▸ beg_mu (V := V) (T := T) (re := re3) (jB := jB3) (tg := tg3) (p := p) hst
  have end2 := mu_end hw hsI hl NN (WI_mono x2W) m2
  have end3 := mu_end hw hsI hl NN (WI_mono x3W) m3
  have hE := TNs_E (S := S) (W := W) (aR := aR) w hpn hR NN [] (p - 1) (begD V T st re2 jB2 tg2) (begD V T st re3 jB3 tg3) (WI_mono x2W) ⟨rfl, rfl, rfl, rfl, rfl, rfl, rfl, fun q => absurd (show (3 : Int32) = 1 from q) (by decide), fun i _ hi => absurd hi (by show ¬ i < (0 : Int32).toNatClampNeg; rw [c_0]; omega)⟩
  have fin2 := TNs_WI hw hsJ NN x2W
  have fin3 := TNs_WI hw hsJ NN x3W
  obtain ⟨Nf, lf, cf, ef, nf⟩ := gFw_ok hw hsI hl (muW dEn dLf (([], p - 1, begD V T st re3 jB3 tg3) : List Nat × Nat × Dyn)) p (begD V T st re3 jB3 tg3) (NN + 1) hp1 (WI_mono x3W) (Nat.le_refl _) (by omega)
  have hg : (TNs pn K A B R dEn dTg dEW (stD K A B pn S W aR aT) NN ([], p - 1, begD V T st re3 jB3 tg3)).2.2 = gFw pn K A B R dEn dTg dEW (stD K A B pn S W aR aT) (NN + 1) p (begD V T st re3 jB3 tg3) := by
    have s1 := TNs_stable (j := Nf) (by rw [ef]; exact nf) (max Nf NN) (Nat.le_max_left _ _)
    have s2 := TNs_stable end3 (max Nf NN) (Nat.le_max_right _ _)
    rw [← s2, s1, ef]
  unfold wp_Pw_second wp_Pg_has
  have g1 : ¬ nI p < 1 := by rw [show (1 : Int32) = nI 1 from rfl, nI_ltI (by omega) (by omega)]; omega
  refine ⟨fun q => absurd q g1, fun _ => ⟨fun q => absurd q (by rw [nI_ltI (by omega) (by omega)]; omega), fun _ => ⟨fun _ => ?_, fun q => absurd q (by decide)⟩⟩⟩
  unfold wp_Sc_copyFrom
  rw [c_0, c_40, c_201, cpy_eq (fun i hi => (zW2 i hi).trans (zW i hi).symm), cpy_eq (fun i hi => (zV2 i hi).trans (zV i hi).symm), cpy_eq (fun i hi => (zT2 i hi).trans (zT i hi).symm), cpy_eq (fun i hi => (zW3 i hi).trans (zW i hi).symm), cpy_eq (fun i hi => (zV3 i hi).trans (zV i hi).symm), cpy_eq (fun i hi => (zT3 i hi).trans (zT i hi).symm)]
  unfold wp_Jo_start wp_Jo_goFurther wp_Wk_startAt wp_Wk_goAlong
  refine ⟨NN + 1, ?_⟩
  obtain ⟨p', rfl⟩ : ∃ z, p = z + 1 := ⟨p - 1, by omega⟩
  rw [nI_pred]
  have hP := fun P => wp_goAlong (P := P) (aR := aR) (S := S) w hpn hW hR NN 0 (([], p' + 1 - 1, begD V T st re2 jB2 tg2) : List Nat × Nat × Dyn) dz2 wS2 (WI_mono x2W) trivial end2 (by omega)
  rw [show (0 : Int32) = nI 0 from nI_0.symm]
  refine hP _ (fun dz' wS' hS' => ?_)
  unfold rpW
  dsimp only
  unfold wp_Nw_goFrom
  refine ⟨(NN + 1), ?_⟩
  have hQ := fun P => wp_goFrom (P := P) (aR := aR) (S := S) w hpn hW hR (NN + 1) 0 (p' + 1) (begD V T st re3 jB3 tg3) dz3 hp1 (WI_mono x3W) (by omega) (by omega)
  refine hQ _ (fun dz3' => ?_)
  rw [← hg]
  obtain ⟨-, -, hE⟩ := hE
  obtain ⟨kk, ll, hk, -, hkl⟩ := fin2.2.1.1.2
  refine wp_joLike hk (by omega) hE ⟨fun q => absurd q (by decide), fun _ => wp_scLike hE.1 hE.2.1 ⟨fun q => absurd q (by decide), fun _ => ?_⟩⟩
  exact hp _ _ _ _ _ _ _ _ _ _ _ _ _ _ _ _ _ _ _ _ _ _ _ _ _ _ _ _ _ zW fin2.2.1.2.1 fin2.2.1.2.2 zW fin3.2.1.2.1 fin3.2.1.2.2
