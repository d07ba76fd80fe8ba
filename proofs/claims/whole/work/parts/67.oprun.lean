-- ===== run, goOn, second and what is counted, on both sides =====
section OR
variable {j n cells pn st : Nat} {K A B Z R S aR aT W T wS W2 T2 W3 T3 mW N Q P : Nat → Int32} {V V2 V3 : Nat → Int64} {steps en wd wc wa at' hi is' : Int32}
variable {th ce no fa pl ra left dz tg : Int32} {re : Int64} {jB mT : Nat → Int32} {U : Nat → Int64} {X : Prop → Prop}
theorem inv_walk (h : INV j n cells pn st K A B Z R aR aT W V T steps en wd wc wS W2 V2 T2 W3 V3 T3 mW N Q P wa at' hi is') {y : List Nat × Nat × Dyn} (hWI : WI n pn K dEn (dK n (1000 * (j + 1)) aT) y) (h0 : W0 pn y) (hE : ¬ dEn y.2.2 = 3)
    {wS' N' Q' P' : Nat → Int32} {at2 hi2 : Int32} (hS : Stk wS' y.1) (hq : QR aR aT y.2.2.2.1 N' Q') (hsp : dEn y.2.2 = 0 → at2 = nI y.2.1 ∧ hi2 = nI y.1.length ∧ RStk P' y.1) :
    INV (j + 1) n cells pn st K A B Z R aR aT W y.2.2.1 y.2.2.2.1 y.2.2.2.2.1 (dEn y.2.2) (nI y.1.length) (nI y.2.1) wS' W2 V2 T2 W3 V3 T3 mW N' Q' P' (wsm aT y.2.2.2.1 n) at2 hi2 (if dEn y.2.2 = 0 then 1 else 0) := by
  obtain ⟨i1, i2, ⟨b1, b2, b3, b4⟩, i4, ⟨a1, a2, a3, a4, a5⟩, i6, i7, i8⟩ := inv_mono h
  obtain ⟨hSI, ⟨⟨⟨hT, -⟩, zV, zT⟩, hTn, k, l, hk, hl, hkl⟩, -, -⟩ := hWI
  refine ⟨i1, i2, ⟨b1, b2, zV, zT⟩, i4, ⟨hq, hT, a3, hTn, rfl⟩, ⟨k, hk, by omega⟩, i7, hE, rfl, fun q => ?_⟩
  obtain ⟨e1, e2, e3⟩ := hsp q
  obtain ⟨f1, f2⟩ := h0 q
  exact ⟨y.1, y.2.1, hSI, f1, f2, hS, rfl, rfl, e3, e2, e1⟩
theorem mu_1000 {I : Dyn → Prop} {x : List Nat × Nat × Dyn} {l : Nat} (hn : n ≤ 200) (hp : pn ≤ 30) (h : WI n pn K dEn I x) (hl : x.2.2.2.2.2.1 = nI l) (hl2 : l ≤ 1000) : muW dEn dLf x ≤ 432432 := by
  unfold muW
  have := phi_le h hp hn
  have e : dLf x.2.2 = l := by unfold dLf; rw [hl, nI_clamp (by omega)]
  rw [e]
  by_cases q : dEn x.2.2 = 3
  · rw [if_pos q]; omega
  · rw [if_neg q]; omega
theorem op_run (hX : ∀ p : Prop, p → X p) (h : INV j n cells pn st K A B Z R aR aT W V T steps en wd wc wS W2 V2 T2 W3 V3 T3 mW N Q P wa at' hi is') (hj : j ≤ 1000) {p : Int32}
    {Qp : Int32 → (Nat → Int64) → (Nat → Int32) → Int32 → Int32 → Int32 → Int32 → Int32 → Int64 → (Nat → Int32) → Int32 → Int32 → Int32 → Int32 → (Nat → Int32) → Int32 → Int32 → Int32 → Int32 → Int32 → Int32 → Int32 → Int32 → Int32 → Int64 → Int32 → (Nat → Int64) → (Nat → Int32) → (Nat → Int32) → (Nat → Int32) → (Nat → Int32) → (Nat → Int32) → (Nat → Int64) → Prop}
    (h0 : Qp (-2) V T steps left en pl ra re jB dz tg wd wc wS (-2) 0 wa at' hi steps ra pl is' re fa V N Q P jB mT U)
    (h1 : ∀ V' T' steps' left' en' pl' ra' re' jB' dz' tg' wd' wc' wS' wa' at2 hi2 is2 fa' N' Q' P' mT' U', INV (j + 1) n cells pn st K A B Z R aR aT W V' T' steps' en' wd' wc' wS' W2 V2 T2 W3 V3 T3 mW N' Q' P' wa' at2 hi2 is2 →
      Qp en' V' T' steps' left' en' pl' ra' re' jB' dz' tg' wd' wc' wS' en' 0 wa' at2 hi2 steps' ra' pl' is2 re' fa' V' N' Q' P' jB' mT' U') :
    wp_Pw_run (fun r V' T' steps' left' en' pl' ra' re' jB' dz' tg' wd' wc' wS' => X (wp_Mo_run (fun r2 th2 wa2 at2 hi2 be2 ra2 ne2 is2 re2 fa2 V2 N2 Q2 P2 O2 T2 U2 => Qp r V' T' steps' left' en' pl' ra' re' jB' dz' tg' wd' wc' wS' r2 th2 wa2 at2 hi2 be2 ra2 ne2 is2 re2 fa2 V2 N2 Q2 P2 O2 T2 U2) th (lN st) ce no (nI pn) wa at' hi steps ra pl is' re fa W V K A B N Q R S P jB mT U p)) (nI n) K A B (nI pn) R S aR aT (nI cells) W V T steps left en pl ra re jB dz tg wd wc wS (nI st) p := by
  obtain ⟨i1, ⟨c1, c2, c3⟩, ⟨b1, b2, b3, b4⟩, i4, ⟨a1, a2, a3, a4, a5⟩, i6, i7, i8⟩ := id h
  by_cases q1 : p < 1
  · unfold wp_Pw_run wp_Pg_has
    exact ⟨fun _ => ⟨fun z => absurd rfl z, fun _ => hX _ ⟨fun _ => h0, fun z => absurd q1 z⟩⟩, fun z => absurd q1 z⟩
  by_cases q2 : nI pn < p
  · unfold wp_Pw_run wp_Pg_has
    refine ⟨fun z => absurd z q1, fun _ => ⟨fun _ => ⟨fun z => absurd rfl z, fun _ => hX _ ⟨fun z => absurd z q1, fun _ => ⟨fun z => ?_, fun _ => h0⟩⟩⟩, fun z => absurd q2 z⟩⟩
    exact absurd q2 (Int32.not_lt.mpr z)
  obtain ⟨p', p1, p2, rfl⟩ := nat_of1 q1 q2 (by omega)
  obtain ⟨NN, hNN⟩ : ∃ z : Nat, z = 432232 := ⟨_, rfl⟩
  have hw := WK_of i1 c1 c3
  have hsK : SPok n pn K dEn dTg dEW (stD K A B pn S W aR aT) (dK n (1000 * (j + 1)) aT) := SP_K i1 (by omega)
  have hsI : SPok n pn K dEn dTg dEW (stD K A B pn S W aR aT) (dI aT) := SP_D i1
  have hl : LFok n pn K dEn (stD K A B pn S W aR aT) (dI aT) dLf := LF_D
  have xJ := beg_WI (n := n) (K := K) (re := re) (jB := jB) (tg := tg) a2 c2 p1 p2 b3 b4
  have xK : WI n pn K dEn (dK n (1000 * (j + 1)) aT) (([], p' - 1, begD V T st re jB tg) : List Nat × Nat × Dyn) := ⟨xJ.1, ⟨xJ.2.1, a4, 0, st, nI_0.symm, rfl, by omega⟩, xJ.2.2.1, xJ.2.2.2⟩
  have m2 : _ ≤ NN := hNN ▸ beg_mu (V := V) (T := T) (re := re) (jB := jB) (tg := tg) (p := p') c2
  have hE := mu_end hw hsI hl NN (WI_mono xJ) m2
  have yK := TNs_WI hw hsK NN xK
  have y0 := TNs_W0 hw hsK NN xK (fun q => absurd (show (3 : Int32) = 0 from q) (by decide))
  refine cl_run i1 c1 b1 c3 (N := NN) (by omega) a2 c2 p1 p2 b3 b4 hE (fun dz' wS' hS' => ?_)
  unfold rpW
  refine hX _ ?_
  rw [a5]
  refine rf_run (tg := tg) i1 c1 b1 c3 (N := NN) a2 c2 p1 p2 b3 b4 a1 hE ?_
  intro at2 hi2 fa2 N2 Q2 P2 mT2 U2 hq hsp
  exact h1 _ _ _ _ _ _ _ _ _ _ _ _ _ _ _ _ _ _ _ _ _ _ _ _ (inv_walk h yK y0 hE hS' hq hsp)
theorem op_goOn (hX : ∀ p : Prop, p → X p) (h : INV j n cells pn st K A B Z R aR aT W V T steps en wd wc wS W2 V2 T2 W3 V3 T3 mW N Q P wa at' hi is') (hj : j ≤ 1000) {a : Int64}
    {Qp : Int32 → (Nat → Int64) → (Nat → Int32) → Int32 → Int32 → Int32 → Int32 → Int32 → Int64 → (Nat → Int32) → Int32 → Int32 → Int32 → Int32 → (Nat → Int32) → Int32 → Int32 → Int32 → Int32 → Int32 → Int32 → Int32 → Int32 → Int32 → Int64 → Int32 → (Nat → Int64) → (Nat → Int32) → (Nat → Int32) → (Nat → Int32) → (Nat → Int32) → (Nat → Int32) → (Nat → Int64) → Prop}
    (h0 : Qp (-5) V T steps left en pl ra re jB dz tg wd wc wS (-5) 0 wa at' hi steps ra pl is' re fa V N Q P jB mT U)
    (h1 : ∀ V' T' steps' left' en' pl' ra' re' jB' dz' tg' wd' wc' wS' wa' at2 hi2 is2 fa' N' Q' P' mT' U', INV (j + 1) n cells pn st K A B Z R aR aT W V' T' steps' en' wd' wc' wS' W2 V2 T2 W3 V3 T3 mW N' Q' P' wa' at2 hi2 is2 →
      Qp en' V' T' steps' left' en' pl' ra' re' jB' dz' tg' wd' wc' wS' en' 0 wa' at2 hi2 steps' ra' pl' is2 re' fa' V' N' Q' P' jB' mT' U') :
    wp_Pw_goOn (fun r V' T' steps' left' en' pl' ra' re' jB' dz' tg' wd' wc' wS' => X (wp_Mo_goOn (fun r2 th2 wa2 at2 hi2 be2 ra2 ne2 is2 re2 fa2 V2 N2 Q2 P2 O2 T2 U2 => Qp r V' T' steps' left' en' pl' ra' re' jB' dz' tg' wd' wc' wS' r2 th2 wa2 at2 hi2 be2 ra2 ne2 is2 re2 fa2 V2 N2 Q2 P2 O2 T2 U2) th (lN st) ce no (nI pn) wa at' hi steps ra pl is' re fa W V K A B N Q R S P jB mT U a)) (nI n) K A B (nI pn) R S aR aT (nI cells) W V T steps left en pl ra re jB dz tg wd wc wS (nI st) a := by
  obtain ⟨i1, ⟨c1, c2, c3⟩, ⟨b1, b2, b3, b4⟩, i4, ⟨a1, a2, a3, a4, a5⟩, ⟨k, k1, k2⟩, i7, e1, e2, e3⟩ := id h
  have hle := hS_le a
  unfold wp_Pw_goOn
  refine ⟨fun q => wp_held ?_, fun q => hX _ ⟨fun _ => h0, fun z => absurd ?_ z⟩⟩
  · subst q
    obtain ⟨l, c, s1, s2, s3, s4, s5, s6, s7, s8, s9⟩ := e3 rfl
    rw [if_pos rfl] at e2
    obtain ⟨NN, hNN⟩ : ∃ z : Nat, z = 432432 := ⟨_, rfl⟩
    have hw := WK_of i1 c1 c3
    have hsK : SPok n pn K dEn dTg dEW (stD K A B pn S W aR aT) (dK n (1000 * (j + 1)) aT) := SP_K i1 (by omega)
    have hsI : SPok n pn K dEn dTg dEW (stD K A B pn S W aR aT) (dI aT) := SP_D i1
    have hl : LFok n pn K dEn (stD K A B pn S W aR aT) (dI aT) dLf := LF_D
    have xK : WI n pn K dEn (dK n (1000 * (j + 1)) aT) ((l, c, ((V, T, steps, nI (hS a), 3, 0, ra, re, jB, tg) : Dyn)) : List Nat × Nat × Dyn) :=
      ⟨s1, ⟨⟨⟨a2, k, hS a, k1, rfl, by omega⟩, b3, b4⟩, a4, k, hS a, k1, rfl, by omega⟩, fun _ => ⟨s2, s3⟩, by simp only; omega⟩
    have xI : WI n pn K dEn (dI aT) ((l, c, ((V, T, steps, nI (hS a), 3, 0, ra, re, jB, tg) : Dyn)) : List Nat × Nat × Dyn) := ⟨xK.1, xK.2.1.1.1, xK.2.2.1, xK.2.2.2⟩
    have m2 : _ ≤ NN := hNN ▸ mu_1000 (x := (l, c, ((V, T, steps, nI (hS a), 3, 0, ra, re, jB, tg) : Dyn))) i1.1 c1 xI rfl hle
    have hE := mu_end hw hsI hl NN xI m2
    have yK := TNs_WI hw hsK NN xK
    have y0 := TNs_W0 hw hsK NN xK (fun q => absurd (show (3 : Int32) = 0 from q) (by decide))
    unfold wp_Jo_goFurther
    rw [s5, s6]
    refine cl_walk (x := ((l, c, ((V, T, steps, nI (hS a), 3, 0, ra, re, jB, tg) : Dyn)) : List Nat × Nat × Dyn)) i1 c1 b1 c3 (N := NN) (by omega) xI s4 hE (fun dz' wS' hS' => ?_)
    unfold rpW
    refine hX _ ⟨fun z => absurd (e2.symm.trans z) (by decide), fun _ => mo_held ?_⟩
    rw [a5, s8, s9]
    refine ⟨NN + 1, mo_walk i1 c1 b1 c3 NN l c V T steps (nI (hS a)) 0 ra re jB tg fa N Q P mT U (hS a) xI s7 a1 rfl (by omega) hE ?_⟩
    intro at2 hi2 fa2 N2 Q2 P2 mT2 U2 hq hsp
    exact h1 _ _ _ _ _ _ _ _ _ _ _ _ _ _ _ _ _ _ _ _ _ _ _ _ (inv_walk h yK y0 hE hS' hq hsp)
  · rw [e2, if_neg q]
/-- how many answers wait -/
theorem wp_allWaiting {post : Int32 → Prop} {aT T : Nat → Int32} {ce ps : Int32} (hn : n ≤ 200) (hp : post (wsm aT T n)) : wp_Pw_allWaiting post (nI n) aT ce T ps := by
  have key : ∀ (m i : Nat), i + m = n → wl_Pw_allWaiting_4 post (nI n) aT ce T ps (m + 1) (wsm aT T i) (nI (i + 1)) := by
    intro m
    induction m with
    | zero =>
      intro i hi
      have hi : i = n := by omega
      subst hi
      exact ⟨fun _ => hp, fun q => absurd (by rw [nI_ltI (by omega) (by omega)]; omega) q⟩
    | succ m ih =>
      intro i hi
      have g0 : ¬ nI (i + 1) < 0 := nI_pos (by omega)
      have g1 : ¬ (201 : Int32) ≤ nI (i + 1) := by rw [show (201 : Int32) = nI 201 from rfl, nI_leI (by omega) (by omega)]; omega
      have vi : vp_in (nI (i + 1)) 201 := vp_in_nI (by omega) (by omega)
      refine ⟨fun q => absurd q (by rw [nI_ltI (by omega) (by omega)]; omega), fun _ => ?_⟩
      refine ⟨fun q => absurd q g0, fun _ => ⟨fun q => absurd q g1, fun _ => ⟨vi, ?_⟩⟩⟩
      refine ⟨fun q => absurd q g0, fun _ => ⟨fun q => absurd q g1, fun _ => ⟨vi, ?_⟩⟩⟩
      rw [nI_clamp (by omega), nI_1]
      exact ih (i + 1) (by omega)
  exact ⟨n + 1, key n 0 (by omega)⟩
theorem op_count (hX : ∀ p : Prop, p → X p) (h : INV j n cells pn st K A B Z R aR aT W V T steps en wd wc wS W2 V2 T2 W3 V3 T3 mW N Q P wa at' hi is') {ps a : Int32} {sn : Int64} {Qp : Int32 → Int32 → Int32 → Prop} (h0 : ∀ r, Qp r r 0) :
    wp_Pw_count (fun r => X (wp_Mo_count (fun r' th' => Qp r r' th') th sn (nI cells) (nI n) (nI pn) wa at' hi steps ra pl is' re fa a)) (nI n) (nI pn) aT (nI cells) T steps left en pl ra re ps a := by
  have hn := h.1.1
  have ha := h.2.2.2.2.1.2.2.2.2
  have ne : ∀ {x y : Int32} {Pq : Prop}, a = x → ¬ x = y → a = y → Pq := fun h1 h2 h3 => absurd (h1.symm.trans h3) h2
  refine ⟨fun c => hX _ ?_, fun c => hX _ ?_, fun c => hX _ ?_, fun c => wp_allWaiting hn (hX _ ?_), fun c => hX _ ?_, fun c => hX _ ?_⟩
  · exact ⟨fun _ => h0 _, ne c (by decide), ne c (by decide), ne c (by decide), ne c (by decide), fun q => absurd c q.1⟩
  · exact ⟨ne c (by decide), fun _ => h0 _, ne c (by decide), ne c (by decide), ne c (by decide), fun q => absurd c q.2.1⟩
  · exact ⟨ne c (by decide), ne c (by decide), fun _ => h0 _, ne c (by decide), ne c (by decide), fun q => absurd c q.2.2.1⟩
  · rw [ha]
    exact ⟨ne c (by decide), ne c (by decide), ne c (by decide), fun _ => h0 _, ne c (by decide), fun q => absurd c q.2.2.2.1⟩
  · exact ⟨ne c (by decide), ne c (by decide), ne c (by decide), ne c (by decide), fun _ => h0 _, fun q => absurd c q.2.2.2.2⟩
  · exact ⟨fun q => absurd q c.1, fun q => absurd q c.2.1, fun q => absurd q c.2.2.1, fun q => absurd q c.2.2.2.1, fun q => absurd q c.2.2.2.2, fun _ => h0 _⟩
theorem op_order (hX : ∀ p : Prop, p → X p) {ps a : Int32} {sn : Int64} {Qp : Int32 → Int32 → Int32 → Prop} (h0 : ∀ r, Qp r r 0) {no pa : Int32} :
    wp_Pw_order (fun r => X (wp_Mo_order (fun r' th' => Qp r r' th') th sn ce no pa wa at' hi steps ra pl is' re fa jB a)) steps left en pl ra re jB ps a := by
  unfold wp_Pw_order wp_Jo_begunAt
  refine ⟨fun c => hX _ ⟨fun _ => h0 _, fun q => absurd c q⟩, fun c => ⟨fun c2 => hX _ ⟨fun _ => h0 _, fun _ => ⟨fun _ => h0 _, fun q => absurd c2 q⟩⟩, fun c2 => ⟨fun c3 => hX _ ⟨fun _ => h0 _, fun _ => ⟨fun _ => h0 _, fun _ => ⟨fun _ => h0 _, fun q => absurd c3 q⟩⟩⟩, fun c3 => ?_⟩⟩⟩
  have v : vp_in a 1000 := vp_of0 (n := 1000) c c3 (by omega) (by omega)
  exact ⟨v, hX _ ⟨fun q => absurd q c, fun _ => ⟨fun q => absurd q c2, fun _ => ⟨fun q => absurd q c3, fun _ => ⟨v, h0 _⟩⟩⟩⟩⟩
theorem op_second (hX : ∀ p : Prop, p → X p) (h : INV j n cells pn st K A B Z R aR aT W V T steps en wd wc wS W2 V2 T2 W3 V3 T3 mW N Q P wa at' hi is') {p : Int32} {sn : Int64}
    {jB2 jB3 wS2 : Nat → Int32} {c2 s2 l2 e2 p2 r2 dz2 tg2 wd2 wc2 c3 s3 l3 e3 p3 r3 dz3 tg3 : Int32} {re2 re3 : Int64} {be ne : Int32}
    {Qp : Int32 → Int32 → (Nat → Int32) → (Nat → Int64) → (Nat → Int32) → Int32 → Int32 → Int32 → Int32 → Int32 → Int64 → (Nat → Int32) → Int32 → Int32 → Int32 → Int32 → (Nat → Int32) → Int32 → (Nat → Int32) → (Nat → Int64) → (Nat → Int32) → Int32 → Int32 → Int32 → Int32 → Int32 → Int64 → (Nat → Int32) → Int32 → Int32 → Int32 → Int32 → Prop}
    (h1 : ∀ (r : Int32) (a1 : Int32) (a2 : Nat → Int32) (a3 : Nat → Int64) (a4 : Nat → Int32) (a5 a6 a7 a8 a9 : Int32) (a10 : Int64) (a11 : Nat → Int32) (a12 a13 a14 a15 : Int32) (a16 : Nat → Int32) (b1 : Int32) (b2 : Nat → Int32) (b3 : Nat → Int64) (b4 : Nat → Int32) (b5 b6 b7 b8 b9 : Int32) (b10 : Int64) (b11 : Nat → Int32) (b12 b13 : Int32),
      INV (j + 1) n cells pn st K A B Z R aR aT W V T steps en wd wc wS a2 a3 a4 b2 b3 b4 mW N Q P wa at' hi is' → Qp r a1 a2 a3 a4 a5 a6 a7 a8 a9 a10 a11 a12 a13 a14 a15 a16 b1 b2 b3 b4 b5 b6 b7 b8 b9 b10 b11 b12 b13 r 0) :
    wp_Pw_second (fun r a1 a2 a3 a4 a5 a6 a7 a8 a9 a10 a11 a12 a13 a14 a15 a16 b1 b2 b3 b4 b5 b6 b7 b8 b9 b10 b11 b12 b13 => X (wp_Mo_second (fun r' th' => Qp r a1 a2 a3 a4 a5 a6 a7 a8 a9 a10 a11 a12 a13 a14 a15 a16 b1 b2 b3 b4 b5 b6 b7 b8 b9 b10 b11 b12 b13 r' th') th sn ce no (nI pn) wa at' hi be ra ne is' re fa p))
      (nI n) K A B (nI pn) R S aR aT (nI cells) W V T c2 W2 V2 T2 s2 l2 e2 p2 r2 re2 jB2 dz2 tg2 wd2 wc2 wS2 c3 W3 V3 T3 s3 l3 e3 p3 r3 re3 jB3 dz3 tg3 (nI st) p := by
  obtain ⟨i1, ⟨d1, d2, d3⟩, ⟨b1, b2, b3, b4⟩, i4, ⟨a1, a2, a3, a4, a5⟩, i6, ⟨z1, z2, z3, z4, z5, z6⟩, i8⟩ := id h
  have same := inv_mono h
  by_cases q1 : p < 1
  · unfold wp_Pw_second wp_Pg_has
    exact ⟨fun _ => ⟨fun z => absurd rfl z, fun _ => hX _ ⟨fun _ => h1 _ _ _ _ _ _ _ _ _ _ _ _ _ _ _ _ _ _ _ _ _ _ _ _ _ _ _ _ _ _ same, fun z => absurd q1 z⟩⟩, fun z => absurd q1 z⟩
  by_cases q2 : nI pn < p
  · unfold wp_Pw_second wp_Pg_has
    refine ⟨fun z => absurd z q1, fun _ => ⟨fun _ => ⟨fun z => absurd rfl z, fun _ => hX _ ⟨fun z => absurd z q1, fun _ => ⟨fun z => ?_, fun _ => h1 _ _ _ _ _ _ _ _ _ _ _ _ _ _ _ _ _ _ _ _ _ _ _ _ _ _ _ _ _ _ same⟩⟩⟩, fun z => absurd q2 z⟩⟩
    exact absurd q2 (Int32.not_lt.mpr z)
  obtain ⟨p', p1, p2, rfl⟩ := nat_of1 q1 q2 (by omega)
  refine wp_second i1 d1 b1 d3 a2 d2 p1 p2 b2 b3 b4 z1 z2 z3 z4 z5 z6 (fun a1 a2 a3 a4 a5 a6 a7 a8 a9 a10 a11 a12 a13 a14 a15 a16 b1 b2 b3 b4 b5 b6 b7 b8 b9 b10 b11 b12 b13 y1 y2 y3 y4 y5 y6 => hX _ ⟨fun z => absurd z q1, fun _ => ⟨fun _ => ?_, fun z => absurd (Int32.not_lt.mp q2) z⟩⟩)
  exact h1 _ _ _ _ _ _ _ _ _ _ _ _ _ _ _ _ _ _ _ _ _ _ _ _ _ _ _ _ _ _ (inv_second h y1 y2 y3 y4 y5 y6)
end OR
