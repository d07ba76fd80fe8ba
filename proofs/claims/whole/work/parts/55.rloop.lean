-- ===== the reference's walk takes the same turns =====
section RL
variable {th : Int32} {sn : Int64} {ce no : Int32}
variable {n : Nat} {K A B Z : Nat → Int32} {cells : Nat} {pn : Nat} {S W aR aT R : Nat → Int32}
variable {post : Int32 → Int32 → Int32 → Int32 → Int32 → Int32 → Int32 → Int32 → Int64 → Int32 → (Nat → Int64) → (Nat → Int32) → (Nat → Int32) → (Nat → Int32) → (Nat → Int32) → (Nat → Int32) → (Nat → Int64) → Prop}
/-- what the reference hands on when a walk has ended at y -/
def finR (post : Int32 → Int32 → Int32 → Int32 → Int32 → Int32 → Int32 → Int32 → Int64 → Int32 → (Nat → Int64) → (Nat → Int32) → (Nat → Int32) → (Nat → Int32) → (Nat → Int32) → (Nat → Int32) → (Nat → Int64) → Prop) (n : Nat) (aR aT : Nat → Int32) (y : List Nat × Nat × Dyn) : Prop :=
  ∀ (at' hi' fa' : Int32) (N' Q' P' T' : Nat → Int32) (U' : Nat → Int64), QR aR aT y.2.2.2.1 N' Q' → (dEn y.2.2 = 0 → at' = nI y.2.1 ∧ hi' = nI y.1.length ∧ RStk P' y.1) →
    post (dEn y.2.2) (wsm aT y.2.2.2.1 n) at' hi' y.2.2.2.2.1 y.2.2.2.2.2.2.2.2.1 y.2.2.2.2.2.2.2.1 (if dEn y.2.2 = 0 then 1 else 0) y.2.2.2.2.2.2.2.2.2.1 fa' y.2.2.1 N' Q' P' y.2.2.2.2.2.2.2.2.2.2.1 T' U'
theorem mo_walk (w : WFn n K A B Z cells) (hpn : pn ≤ 30) (hW : okW cells W) (hR : ∀ c : Nat, 1 ≤ c → c ≤ pn → R c = 0 ∨ ∃ y : Nat, R c = nI y ∧ 1 ≤ y ∧ y ≤ n ∧ isS (K y) = true) :
    ∀ (M : Nat) (l : List Nat) (c : Nat) (V : Nat → Int64) (T : Nat → Int32) (steps left pl ra : Int32) (re : Int64) (jB : Nat → Int32) (tg fa : Int32) (N Q P mT : Nat → Int32) (U : Nat → Int64) (lf : Nat),
      WI n pn K dEn (dI aT) (l, c, ((V, T, steps, left, 3, pl, ra, re, jB, tg) : Dyn)) → RStk P l → QR aR aT T N Q → left = nI lf → lf ≤ 1000000000 →
      ¬ dEn (TNs pn K A B R dEn dTg dEW (stD K A B pn S W aR aT) M (l, c, ((V, T, steps, left, 3, pl, ra, re, jB, tg) : Dyn))).2.2 = 3 →
      finR post n aR aT (TNs pn K A B R dEn dTg dEW (stD K A B pn S W aR aT) M (l, c, ((V, T, steps, left, 3, pl, ra, re, jB, tg) : Dyn))) →
      wl_Mo_walk_15 post th sn ce no (nI pn) W K A B R S (M + 1) (wsm aT T n) (nI c) (nI l.length) steps ra pl 0 re fa V N Q P jB mT U (lN lf) 0 := by
  have hn := w.1
  have hw := WK_of w hpn hR
  have hs : SPok n pn K dEn dTg dEW (stD K A B pn S W aR aT) (dI aT) := SP_D w
  intro M
  induction M with
  | zero =>
    intro l c V T steps left pl ra re jB tg fa N Q P mT U lf _ _ _ _ _ hE
    exact absurd rfl hE
  | succ M ih =>
    intro l c V T steps left pl ra re jB tg fa N Q P mT U lf hWI hP hQ hlf hlf2 hE hfin
    have hWI2 := TN_WI hw hs hWI
    simp only [TNs] at hE hfin
    have hT : TN pn K A B R dEn dTg dEW (stD K A B pn S W aR aT) (l, c, ((V, T, steps, left, 3, pl, ra, re, jB, tg) : Dyn)) = tnF pn K A B R dEn dTg dEW (stD K A B pn S W aR aT) (l, c, ((V, T, steps, left, 3, pl, ra, re, jB, tg) : Dyn)) := by
      unfold TN; rw [if_pos (show dEn (l, c, ((V, T, steps, left, 3, pl, ra, re, jB, tg) : Dyn)).2.2 = 3 from rfl)]
    rw [hT] at hE hfin hWI2
    obtain ⟨hSI, ⟨hTok, kk, ll, hk, hl, hkl⟩, hcc, -⟩ := hWI
    simp only at hSI hTok hk hl hcc
    obtain ⟨c1, c2⟩ := hcc rfl
    unfold wl_Mo_walk_15
    refine ⟨fun q => absurd rfl q, fun _ => ?_⟩
    cases l with
    | nil =>
      rw [List.length_nil]
      refine ⟨fun q => absurd nI_0 q, fun _ => ⟨fun q => absurd rfl q, fun _ => ⟨fun q => ?_, fun q => ?_⟩⟩⟩
      · have hc : c + 1 ≤ pn := by
          rcases Nat.lt_or_ge c pn with z | z
          · exact z
          · exfalso; apply q; congr 1; omega
        simp only [tnF] at hE hfin hWI2
        rw [if_pos hc] at hE hfin hWI2
        rw [nI_1, nI_clamp (show c + 1 < 2 ^ 31 by omega)]
        have v31 : vp_in (nI (c + 1)) 31 := vp_in_nI (by omega) (by omega)
        refine ⟨v31, fun z => ?_, fun z => ⟨v31, ?_⟩⟩
        · have hz : R (c + 1) = 0 := by
            rcases hR (c + 1) (by omega) hc with e | ⟨y, e, y1, y2, -⟩
            · exact e
            · rw [e] at z; exact absurd z (nI_nle (by omega) (by omega))
          rw [if_pos hz] at hE hfin hWI2
          exact ih [] (c + 1) V T steps left pl ra re jB tg fa N Q P mT U lf hWI2 trivial hQ hlf hlf2 hE hfin
        · have hz : ¬ R (c + 1) = 0 := by intro e; rw [e] at z; exact z (by decide)
          rw [if_neg hz] at hE hfin hWI2
          obtain ⟨y, e, y1, y2, y3⟩ := (hR (c + 1) (by omega) hc).resolve_left hz
          rw [e, nI_clamp (show y < 2 ^ 31 by omega)] at hE hfin hWI2
          rw [e]
          refine mo_push (by omega) ?_
          exact ih [y] (c + 1) V T steps left pl ra re jB tg fa N Q _ mT U lf hWI2 (RStk_push (l := []) trivial (by omega)) hQ hlf hlf2 hE hfin
      · rw [nI_eq (by omega) (by omega)] at q
        simp only [tnF] at hE hfin
        rw [if_neg (by omega), TNs_end (show ¬ dEn (dEW ((V, T, steps, left, 3, pl, ra, re, jB, tg) : Dyn)) = 3 from (by decide : ¬ (1 : Int32) = 3))] at hfin
        have h9 := hfin (nI c) (nI 0) fa N Q P mT U hQ (fun z => absurd (show (1 : Int32) = 0 from z) (by decide))
        exact h9
    | cons x r =>
      have c2 := c2 (by simp)
      obtain ⟨g1, g2, g3, g4⟩ := hSI
      obtain ⟨p1, p2⟩ := hP
      simp only [List.length_cons]
      have vr : vp_in (nI r.length) 640 := vp_in_nI (by omega) (by omega)
      have cr : (nI r.length).toNatClampNeg = r.length := nI_clamp (by omega)
      refine ⟨fun _ => ?_, fun q => absurd q (nI_ne0 (by omega) (by omega))⟩
      rw [nI_pred, cr]
      refine ⟨vr, fun x6 h6 => ?_⟩
      simp only [tnF] at hE hfin hWI2
      by_cases h0 : x = 0
      · rw [if_pos h0] at hE hfin hWI2 p1
        rw [← h6] at p1
        refine ⟨fun _ => ⟨fun q => absurd p1 (Int32.not_lt.mpr q), fun _ => ?_⟩, fun q => absurd p1 (by rw [q]; decide)⟩
        exact ih r c V T steps left pl ra re jB tg fa N Q P mT U lf hWI2 p2 hQ hlf hlf2 hE hfin
      · rw [if_neg h0] at hE hfin hWI2 p1
        obtain ⟨x1, x2, x3⟩ := g1.resolve_left h0
        rw [p1] at h6
        subst h6
        have vx : vp_in (nI x) 201 := vp_in_nI (by omega) (by omega)
        have cx : (nI x).toNatClampNeg = x := nI_clamp (by omega)
        refine ⟨fun _ => ⟨fun _ => ⟨vx, ?_⟩, fun q => absurd (nI_pos' (by omega)) q⟩, fun q => absurd q (nI_ne0 (by omega) (by omega))⟩
        rw [cx]
        by_cases k10 : K x = 10
        · rw [if_pos k10] at hE hfin hWI2
          obtain ⟨a, b, hA, hB, a1, a2, b1, b2, a3, b3⟩ := hw.2.2.2.1 x x1 x2 k10
          rw [hA, hB, nI_clamp (show a < 2 ^ 31 by omega), nI_clamp (show b < 2 ^ 31 by omega)] at hE hfin hWI2
          refine ⟨fun q => absurd k10 q, fun _ => ⟨vx, vr, vx, ?_⟩⟩
          rw [hA, hB]
          refine mo_push (by omega) ?_
          exact ih (a :: b :: r) c V T steps left pl ra re jB tg fa N Q _ mT U lf hWI2 (RStk_push (l := b :: r) (RStk_push p2 (by omega)) (by omega)) hQ hlf hlf2 hE hfin
        · rw [if_neg k10] at hE hfin hWI2
          refine ⟨fun _ => ⟨vx, ?_⟩, fun q => absurd q k10⟩
          by_cases k22 : K x = 22
          · rw [if_pos k22] at hE hfin hWI2
            obtain ⟨a, hA, a1, a2, a3⟩ := hw.2.2.2.2 x x1 x2 k22
            rw [hA, nI_clamp (show a < 2 ^ 31 by omega)] at hE hfin hWI2
            refine ⟨fun q => absurd k22 q, fun _ => ⟨vr, vx, ?_⟩⟩
            rw [hA]
            refine mo_push (by omega) ?_
            refine ih (a :: 0 :: r) c V T steps left pl ra re jB tg fa N Q _ mT U lf hWI2 (RStk_push (l := 0 :: r) ⟨?_, RStk_upd p2 (Nat.le_refl _)⟩ (by omega)) hQ hlf hlf2 hE hfin
            rw [if_pos rfl, pk_us, i_lt, Int32.zero_sub, sb_negT (by omega), i_0]
            omega
          · rw [if_neg k22] at hE hfin hWI2
            refine ⟨fun _ => ?_, fun q => absurd q k22⟩
            have l0 : (0 < left) ↔ 1 ≤ lf := by rw [hlf, ← nI_0, nI_ltI (by omega) (by omega)]; omega
            rw [lg_cmp_eq, show (0 : Int64) = lN 0 from rfl, lN_eq (by omega) (by omega)]
            refine ⟨fun q => ?_, fun q => ?_⟩
            · -- a step
              have hl0 : 0 < left := l0.mpr (by omega)
              have hsd : stD K A B pn S W aR aT x c (V, T, steps, left, 3, pl, ra, re, jB, tg) = ((stepR K A B pn S W V (ansF aR aT T x) tg ra re x c).1, ((stepR K A B pn S W V (ansF aR aT T x) tg ra re x c).2.2.1, (if K x = 25 then tkF aT T x else T), steps + 1, left - 1, (stepR K A B pn S W V (ansF aR aT T x) tg ra re x c).2.2.2.2.2, pl, (stepR K A B pn S W V (ansF aR aT T x) tg ra re x c).2.2.2.1, (stepR K A B pn S W V (ansF aR aT T x) tg ra re x c).2.2.2.2.1, begB steps jB x, (stepR K A B pn S W V (ansF aR aT T x) tg ra re x c).2.1)) := by
                simp only [stD]
                rw [if_pos hl0]
              rw [hsd] at hE hfin hWI2
              have hway := stepR_way (V := V) (S := S) (W := W) (ans := ansF aR aT T x) (tg := tg) (ra := ra) (re := re) w x1 x2 c2 c1
              have hsp : begB steps jB x = if 1000 ≤ steps then jB else upd jB steps.toNatClampNeg (nI x) := by
                unfold begB
                by_cases z : 1000 ≤ steps
                · rw [if_pos z, if_neg (Int32.not_lt.mpr z)]
                · rw [if_neg z, if_pos (Int32.not_le.mp z)]
              -- behind the step
              have beh : ∀ (r0 at' hi' fa' : Int32) (N' Q' P' T' : Nat → Int32) (U' : Nat → Int64), outR (stepR K A B pn S W V (ansF aR aT T x) tg ra re x c) r c r0 at' hi' P' → QR aR aT (if K x = 25 then tkF aT T x else T) N' Q' →
                  wl_Mo_walk_15 post th sn ce no (nI pn) W K A B R S (M + 1) (if K x = 25 then waF aT T (wsm aT T n) x else wsm aT T n) at' hi' (steps + 1) (stepR K A B pn S W V (ansF aR aT T x) tg ra re x c).2.2.2.1 pl 0 (stepR K A B pn S W V (ansF aR aT T x) tg ra re x c).2.2.2.2.1 fa' (stepR K A B pn S W V (ansF aR aT T x) tg ra re x c).2.2.1 N' Q' P' (begB steps jB x) T' U' (lN lf - 1) r0 := by
                intro r0 at' hi' fa' N' Q' P' T' U' ho hq
                have hwsm : (if K x = 25 then waF aT T (wsm aT T n) x else wsm aT T n) = wsm aT (if K x = 25 then tkF aT T x else T) n := by
                  by_cases z : K x = 25
                  · rw [if_pos z, if_pos z, wsm_tk x1 x2]
                  · rw [if_neg z, if_neg z]
                rw [hwsm]
                have hlm : lN lf - 1 = lN (lf - 1) := by rw [show (1 : Int64) = lN 1 from rfl, lN_sub (by omega)]
                rw [hlm]
                have hle : left - 1 = nI (lf - 1) := by rw [hlf, show (1 : Int32) = nI 1 from rfl, pk_sub (by omega)]
                generalize hoe : stepR K A B pn S W V (ansF aR aT T x) tg ra re x c = o at *
                obtain ⟨ow, otg, oV, ora, ore, oen⟩ := o
                simp only at hE hfin hWI2 ⊢
                unfold folF at hE hfin hWI2
                dsimp only at hE hfin hWI2
                unfold wayOK at hway
                unfold outR at ho
                simp only at hway ho
                rcases hway with ⟨y, e1, y1, y2, y3, e2⟩ | ⟨e1, e2⟩ | ⟨e1, e2⟩ | ⟨e1, e2, t, t1, t2, t3⟩ | ⟨e1, e2⟩
                · subst e1
                  subst e2
                  rcases ho with ⟨y', y1', y2', f1, f2, f3, f4, f5⟩ | ⟨f1, -⟩ | ⟨f1, -⟩ | ⟨f1, -⟩ | ⟨f1, -⟩
                  · have hyy : y' = y := by
                      have z : nI y = nI y' := f1
                      rw [nI_eq (by omega) (by omega)] at z
                      exact z.symm
                    subst hyy
                    rw [if_pos (by rw [← nI_0, nI_ltI (by omega) (by omega)]; omega), nI_clamp (by omega)] at hE hfin hWI2
                    rw [f2, f3, f4]
                    exact ih (y' :: r) c oV _ (steps + 1) (left - 1) pl ora ore (begB steps jB x) otg fa' N' Q' P' T' U' (lf - 1) hWI2 f5 hq hle (by omega) hE hfin
                  · exact absurd f1 (nI_ne0 (by omega) (by omega))
                  · exact absurd f1 (by intro z; have := congrArg Int32.toInt z; rw [i_nat (by omega), i_m1] at this; omega)
                  · exact absurd f1 (by intro z; have := congrArg Int32.toInt z; rw [i_nat (by omega), show (-2 : Int32).toInt = -2 by decide +kernel] at this; omega)
                  · exact absurd f1 (by intro z; have := congrArg Int32.toInt z; rw [i_nat (by omega), show (-3 : Int32).toInt = -3 by decide +kernel] at this; omega)
                · subst e1
                  subst e2
                  rw [if_neg (by decide), if_neg (by decide), if_neg (by decide), if_neg (show ¬ dEn (oV, (if K x = 25 then tkF aT T x else T), steps + 1, left - 1, 3, pl, ora, ore, begB steps jB x, otg) = 0 from (by decide : ¬ (3 : Int32) = 0))] at hE hfin hWI2
                  rcases ho with ⟨y', y1', y2', f1, -⟩ | ⟨f1, f2, f3, f4, f5⟩ | ⟨f1, -⟩ | ⟨f1, -⟩ | ⟨f1, -⟩
                  · exact absurd f1.symm (nI_ne0 (by omega) (by omega))
                  · rw [f2, f3, f4]
                    exact ih r c oV _ (steps + 1) (left - 1) pl ora ore (begB steps jB x) otg fa' N' Q' P' T' U' (lf - 1) hWI2 f5 hq hle (by omega) hE hfin
                  · exact absurd f1 (by decide)
                  · exact absurd f1 (by decide)
                  · exact absurd f1 (by decide)
                · subst e1
                  subst e2
                  rw [if_neg (by decide), if_pos rfl] at hE hfin hWI2
                  rcases ho with ⟨y', y1', y2', f1, -⟩ | ⟨f1, -⟩ | ⟨f1, f2, f3, f4, f5⟩ | ⟨f1, -⟩ | ⟨f1, -⟩
                  · exact absurd f1 (by intro z; have := congrArg Int32.toInt z; rw [i_nat (by omega), i_m1] at this; omega)
                  · exact absurd f1 (by decide)
                  · rw [f2, f3, f4]
                    exact ih (drF r) c oV _ (steps + 1) (left - 1) pl ora ore (begB steps jB x) otg fa' N' Q' P' T' U' (lf - 1) hWI2 f5 hq hle (by omega) hE hfin
                  · exact absurd f1 (by decide)
                  · exact absurd f1 (by decide)
                · subst e1
                  subst e2
                  subst t3
                  rw [if_neg (by decide), if_neg (by decide), if_pos rfl, show dTg (oV, (if K x = 25 then tkF aT T x else T), steps + 1, left - 1, 3, pl, ora, ore, begB steps jB x, nI t) = nI t from rfl, nI_clamp (show t < 2 ^ 31 by omega)] at hE hfin hWI2
                  rcases ho with ⟨y', y1', y2', f1, -⟩ | ⟨f1, -⟩ | ⟨f1, -⟩ | ⟨f1, f2, f3, f4⟩ | ⟨f1, -⟩
                  · exact absurd f1 (by intro z; have := congrArg Int32.toInt z; rw [i_nat (by omega), show (-2 : Int32).toInt = -2 by decide +kernel] at this; omega)
                  · exact absurd f1 (by decide)
                  · exact absurd f1 (by decide)
                  · rw [f2, f3, f4, show (1 : Int32) = nI 1 from rfl, pk_sub t1, ← nI_0]
                    have h9 := ih [] (t - 1) oV _ (steps + 1) (left - 1) pl ora ore (begB steps jB x) (nI t) fa' N' Q' P' T' U' (lf - 1) hWI2 trivial hq hle (by omega) hE hfin
                    rw [← nI_0] at h9
                    exact h9
                  · exact absurd f1 (by decide)
                · subst e1
                  have he0 : ¬ oen = 0 := by
                    have h9 := stepR_en (K := K) (A := A) (B := B) (V := V) (pn := pn) (s := x) (p := c) (S := S) (W := W) (ans := ansF aR aT T x) (tg := tg) (ra := ra) (re := re)
                    rw [hoe] at h9
                    unfold E3 at h9
                    dsimp only at h9
                    rcases h9 with e | e | e <;> rw [e] <;> decide
                  rw [if_neg (by decide), if_neg (by decide), if_neg (by decide), if_neg (show ¬ dEn (oV, (if K x = 25 then tkF aT T x else T), steps + 1, left - 1, oen, pl, ora, ore, begB steps jB x, otg) = 0 from he0), TNs_end (show ¬ dEn (r, c, ((oV, (if K x = 25 then tkF aT T x else T), steps + 1, left - 1, oen, pl, ora, ore, begB steps jB x, otg) : Dyn)).2.2 = 3 from e2)] at hfin
                  have h9 := hfin at' hi' fa' N' Q' P' T' U' hq (fun z => absurd z he0)
                  rw [if_neg (show ¬ dEn (r, c, ((oV, (if K x = 25 then tkF aT T x else T), steps + 1, left - 1, oen, pl, ora, ore, begB steps jB x, otg) : Dyn)).2.2 = 0 from he0)] at h9
                  rcases ho with ⟨y', y1', y2', f1, -⟩ | ⟨f1, -⟩ | ⟨f1, -⟩ | ⟨f1, -⟩ | ⟨f1, f2, -⟩
                  · exact absurd f1 (by intro z; have := congrArg Int32.toInt z; rw [i_nat (by omega), show (-3 : Int32).toInt = -3 by decide +kernel] at this; omega)
                  · exact absurd f1 (by decide)
                  · exact absurd f1 (by decide)
                  · exact absurd f1 (by decide)
                  · rw [f2]
                    exact ⟨fun _ => h9, fun z => absurd z he0⟩
              by_cases z : 1000 ≤ steps
              · rw [hsp, if_pos z] at beh
                exact ⟨fun _ => mo_act w hpn c2 c1 hW x1 x2 x3 hQ p2 g4 (by omega) beh, fun z' => absurd z z'⟩
              · rw [hsp, if_neg z] at beh
                refine ⟨fun z' => absurd z' z, fun _ => ⟨?_, mo_act w hpn c2 c1 hW x1 x2 x3 hQ p2 g4 (by omega) beh⟩⟩
                exact vp_of0 (n := 1000) (by rw [hk]; exact nI_pos (by omega)) z (by omega) (by omega)
            · -- spent
              have hl0 : ¬ 0 < left := fun z => by have := l0.mp z; omega
              have hsd : stD K A B pn S W aR aT x c (V, T, steps, left, 3, pl, ra, re, jB, tg) = (-3, (V, T, steps, left, 0, nI x, ra, re, jB, tg)) := by
                simp only [stD]
                rw [if_neg hl0]
              rw [hsd] at hfin
              unfold folF at hfin
              dsimp only at hfin
              rw [if_neg (by decide), if_neg (by decide), if_neg (by decide), if_pos (show dEn (V, T, steps, left, 0, nI x, ra, re, jB, tg) = 0 from rfl), TNs_end (show ¬ dEn (x :: r, c, ((V, T, steps, left, 0, nI x, ra, re, jB, tg) : Dyn)).2.2 = 3 from (by decide : ¬ (0 : Int32) = 3))] at hfin
              exact hfin (nI c) (nI (r.length + 1)) fa N Q P mT U hQ (fun _ => ⟨rfl, rfl, by rw [if_neg h0]; exact p1, p2⟩)
end RL
