-- ===== the class's walk on a stack =====
def Stk (wS : Nat → Int32) : List Nat → Prop
  | [] => True
  | x :: r => wS r.length = nI x ∧ Stk wS r
theorem Stk_upd {wS : Nat → Int32} {y : Int32} : ∀ {l : List Nat} {k : Nat}, Stk wS l → l.length ≤ k → Stk (upd wS k y) l := by
  intro l
  induction l with
  | nil => intro k _ _; trivial
  | cons x r ih =>
    intro k h hk
    simp only [List.length_cons] at hk
    exact ⟨by rw [pk_un (by omega)]; exact h.1, ih h.2 (by omega)⟩
theorem Stk_push {wS : Nat → Int32} {l : List Nat} {x : Nat} (h : Stk wS l) : Stk (upd wS l.length (nI x)) (x :: l) := ⟨pk_us, Stk_upd h (Nat.le_refl _)⟩
theorem Stk_dr {wS : Nat → Int32} {l : List Nat} (h : Stk wS l) : Stk wS (drF l) := by
  induction l with
  | nil => trivial
  | cons x r ih =>
    simp only [drF]
    by_cases c : x = 0
    · rw [if_pos c]; exact h.2
    · rw [if_neg c]; exact ih h.2
theorem wp_push {post : Int32 → (Nat → Int32) → Prop} {cur x : Int32} {m : Nat} {wS : Nat → Int32} (hm : m < 202) (hp : post (nI (m + 1)) (upd wS m x)) : wp_Wk_push post (nI m) cur wS x := by
  unfold wp_Wk_push
  refine ⟨fun c => absurd c (nI_pos (by omega)), fun _ => ⟨fun c => absurd c ?_, fun _ => ⟨vp_in_nI hm (by omega), ?_⟩⟩⟩
  · rw [show (202 : Int32) = nI 202 from rfl, nI_leI (by omega) (by omega)]; omega
  · rw [nI_1, nI_clamp (by omega)]; exact hp
theorem wp_pop {post : Int32 → Int32 → Prop} {cur : Int32} {m : Nat} {wS : Nat → Int32} (hm : m < 202) (hp : post (wS m) (nI m)) : wp_Wk_pop post (nI (m + 1)) cur wS := by
  unfold wp_Wk_pop
  refine ⟨fun c => absurd c (nI_nle (by omega) (by omega)), fun _ => ⟨fun _ => ?_, fun c => absurd ?_ c⟩⟩
  · rw [nI_pred, nI_clamp (by omega)]; exact ⟨vp_in_nI hm (by omega), hp⟩
  · rw [show (202 : Int32) = nI 202 from rfl, nI_leI (by omega) (by omega)]; omega
theorem wp_drop {post : Int32 → Prop} {cur : Int32} {wS : Nat → Int32} {n : Nat} {K : Nat → Int32} {l : List Nat} (hn : n ≤ 200) (h : Stk wS l) (hS : SI n K l) (hp : post (nI (drF l).length)) : wp_Wk_dropToSentenceEnd post (nI l.length) cur wS := by
  have key : ∀ (l : List Nat) (t : Nat), Stk wS l → SI n K l → l.length + t ≤ 201 → post (nI (drF l).length) → ∃ k, wl_Wk_dropToSentenceEnd_2 post cur wS k (nI l.length) (nI t) := by
    intro l
    induction l with
    | nil =>
      intro t _ _ ht hp
      refine ⟨1, fun _ => hp, fun _ => ⟨fun _ => hp, fun c => absurd ?_ c⟩⟩
      simp only [List.length_nil]; rw [nI_0]; decide
    | cons x r ih =>
      intro t h hS ht hp
      obtain ⟨h1, h2⟩ := h
      obtain ⟨g1, g2, g3, g4⟩ := hS
      simp only [List.length_cons] at ht ⊢
      have e0 : ¬ (202 : Int32) ≤ nI t := by rw [show (202 : Int32) = nI 202 from rfl, nI_leI (by omega) (by omega)]; omega
      have e1 : ¬ nI (r.length + 1) ≤ 0 := nI_nle (by omega) (by omega)
      simp only [drF] at hp
      by_cases c : x = 0
      · rw [if_pos c] at hp
        refine ⟨1, fun q => absurd q e0, fun _ => ⟨fun q => absurd q e1, fun _ => wp_pop (by omega) ⟨fun q => absurd ?_ q, fun _ => hp⟩⟩⟩
        rw [h1, c, nI_0]
      · rw [if_neg c] at hp
        obtain ⟨k, hk⟩ := ih (t + 1) h2 g4 (by omega) hp
        have hx : ¬ wS r.length = 0 := by
          rw [h1]
          rcases g1 with g | ⟨x1, x2, -⟩
          · exact absurd g c
          · exact nI_ne0 x1 (by omega)
        refine ⟨k + 1, fun q => absurd q e0, fun _ => ⟨fun q => absurd q e1, fun _ => wp_pop (by omega) ⟨fun _ => ?_, fun q => absurd q hx⟩⟩⟩
        rw [nI_1]; exact hk
  unfold wp_Wk_dropToSentenceEnd
  have hlen : l.length ≤ 201 := by
    cases l with
    | nil => simp
    | cons x r => obtain ⟨-, -, g3, -⟩ := hS; simp only [List.length_cons]; omega
  exact key l 0 h hS (by omega) hp
/-- a step that isn't there any more -/
theorem wp_step0 {n s p : Nat} {K A B S W aR aT T jB : Nat → Int32} {V : Nat → Int64} {pm ce steps left e place ra dz tg : Int32} {re : Int64} (hl : ¬ 0 < left)
    {post : Int32 → (Nat → Int64) → (Nat → Int32) → Int32 → Int32 → Int32 → Int32 → Int32 → Int64 → (Nat → Int32) → Int32 → Int32 → Prop} (hp : post (-3) V T steps left 0 (nI s) ra re jB dz tg) :
    wp_Sp_step post (nI n) K A B pm S aR aT ce W V T steps left e place ra re jB dz tg (nI s) (nI p) :=
  ⟨fun c => absurd c hl, fun _ => ⟨fun c => absurd rfl c, fun _ => hp⟩⟩
/-- the class's post of a walk, over an abstract state -/
def rpW (P : (Nat → Int64) → (Nat → Int32) → Int32 → Int32 → Int32 → Int32 → Int32 → Int64 → (Nat → Int32) → Int32 → Int32 → Int32 → Int32 → (Nat → Int32) → Prop) (y : List Nat × Nat × Dyn) (dz : Int32) (wS : Nat → Int32) : Prop :=
  P y.2.2.1 y.2.2.2.1 y.2.2.2.2.1 y.2.2.2.2.2.1 y.2.2.2.2.2.2.1 y.2.2.2.2.2.2.2.1 y.2.2.2.2.2.2.2.2.1 y.2.2.2.2.2.2.2.2.2.1 y.2.2.2.2.2.2.2.2.2.2.1 dz y.2.2.2.2.2.2.2.2.2.2.2 (nI y.1.length) (nI y.2.1) wS
section CW
variable {n : Nat} {K A B Z : Nat → Int32} {cells : Nat} {pn : Nat} {S W aR aT R : Nat → Int32}
variable {P : (Nat → Int64) → (Nat → Int32) → Int32 → Int32 → Int32 → Int32 → Int32 → Int64 → (Nat → Int32) → Int32 → Int32 → Int32 → Int32 → (Nat → Int32) → Prop}
theorem wp_takeUp (w : WFn n K A B Z cells) (hpn : pn ≤ 30) (hW : okW cells W) {x c : Nat} {r : List Nat} {V : Nat → Int64} {T : Nat → Int32} {steps left pl ra dz tg : Int32} {re : Int64} {jB wS : Nat → Int32}
    (hWI : WI n pn K dEn (dI aT) (x :: r, c, ((V, T, steps, left, 3, pl, ra, re, jB, tg) : Dyn))) (hst : Stk wS r)
    (hP : ∀ dz' wS', Stk wS' (tnF pn K A B R dEn dTg dEW (stD K A B pn S W aR aT) (x :: r, c, ((V, T, steps, left, 3, pl, ra, re, jB, tg) : Dyn))).1 → rpW P (tnF pn K A B R dEn dTg dEW (stD K A B pn S W aR aT) (x :: r, c, ((V, T, steps, left, 3, pl, ra, re, jB, tg) : Dyn))) dz' wS') :
    wp_Wk_takeUp P (nI n) K A B (nI pn) S aR aT (nI cells) W V T steps left 3 pl ra re jB dz tg (nI r.length) (nI c) wS (nI x) := by
  have hn := w.1
  obtain ⟨⟨g1, g2, g3, g4⟩, ⟨hT, kk, ll, hk, hl, hkl⟩, hc, -⟩ := hWI
  simp only at g1 g2 g3 g4 hT hk hl hc
  obtain ⟨c1, c2⟩ := hc rfl
  have c2 := c2 (by simp)
  unfold wp_Wk_takeUp
  simp only [tnF] at hP
  by_cases h0 : x = 0
  · rw [if_pos h0] at hP
    refine ⟨fun q => absurd (by rw [h0, nI_0]) q, fun _ => hP dz wS hst⟩
  · rw [if_neg h0] at hP
    obtain ⟨x1, x2, x3⟩ := g1.resolve_left h0
    refine ⟨fun _ => wp_kindOf hn ?_, fun q => absurd q (nI_ne0 x1 (by omega))⟩
    rw [kx_in x1 x2 hn]
    by_cases k10 : K x = 10
    · rw [if_pos k10] at hP
      obtain ⟨hA, hB, -⟩ := okN_k (c := 10) (w.2.2 x x1 x2) k10 (by omega)
      obtain ⟨a, a1, a2, a3, a4⟩ := hA.2.2.1 rfl
      obtain ⟨b, b1, b2, b3, b4⟩ := hB.2.2.1 rfl
      rw [a3, b3, nI_clamp (show a < 2 ^ 31 by omega), nI_clamp (show b < 2 ^ 31 by omega)] at hP
      refine ⟨fun q => absurd k10 q, fun _ => wp_bOf hn ?_⟩
      rw [ax_in x1 x2 hn, b3]
      refine wp_push (by omega) (wp_aOf hn ?_)
      rw [ax_in x1 x2 hn, a3]
      exact wp_push (by omega) (hP dz _ (Stk_push (l := b :: r) (Stk_push hst)))
    · rw [if_neg k10] at hP
      by_cases k22 : K x = 22
      · rw [if_pos k22] at hP
        obtain ⟨hA, -⟩ := okN_k (c := 22) (w.2.2 x x1 x2) k22 (by omega)
        obtain ⟨a, a1, a2, a3, a4⟩ := hA.2.2.1 rfl
        rw [a3, nI_clamp (show a < 2 ^ 31 by omega)] at hP
        refine ⟨fun _ => ⟨fun q => absurd k22 q, fun _ => ?_⟩, fun q => absurd q k10⟩
        refine wp_push (by omega) (wp_aOf hn ?_)
        rw [ax_in x1 x2 hn, a3]
        refine wp_push (by omega) (hP dz _ (Stk_push (l := 0 :: r) ?_))
        rw [← nI_0]
        exact Stk_push hst
      · rw [if_neg k22] at hP
        refine ⟨fun _ => ⟨fun _ => ?_, fun q => absurd q k22⟩, fun q => absurd q k10⟩
        have hway := stepR_way (V := V) (S := S) (W := W) (ans := ansF aR aT T x) (tg := tg) (ra := ra) (re := re) w x1 x2 c2 c1
        -- what follows a step
        have fol : ∀ (way : Int32) (V' : Nat → Int64) (T' : Nat → Int32) (st' lf' e' pl' ra' : Int32) (re' : Int64) (jB' : Nat → Int32) (tg' dz' : Int32),
            (stD K A B pn S W aR aT x c (V, T, steps, left, 3, pl, ra, re, jB, tg)) = (way, (V', T', st', lf', e', pl', ra', re', jB', tg')) →
            ((∃ y : Nat, way = nI y ∧ 1 ≤ y ∧ y < x ∧ isS (K y) = true ∧ e' = 3) ∨ (way = 0 ∧ e' = 3) ∨ (way = -1 ∧ e' = 3) ∨ (way = -2 ∧ e' = 3 ∧ ∃ q : Nat, 1 ≤ q ∧ q ≤ pn + 1 ∧ tg' = nI q) ∨ (way = -3 ∧ ¬ e' = 3)) →
            wp_Wk_follow (fun wk_depth_87 wk_current_87 wS_87 => P V' T' st' lf' e' pl' ra' re' jB' dz' tg' wk_depth_87 wk_current_87 wS_87) st' lf' e' pl' ra' re' dz' tg' (nI r.length) (nI c) wS (nI x) way := by
          intro way V' T' st' lf' e' pl' ra' re' jB' tg' dz' hsd hcs
          rw [hsd] at hP
          unfold folF at hP
          dsimp only at hP
          unfold wp_Wk_follow
          rcases hcs with ⟨y, rfl, y1, y2, y3, rfl⟩ | ⟨rfl, rfl⟩ | ⟨rfl, rfl⟩ | ⟨rfl, rfl, q, q1, q2, rfl⟩ | ⟨rfl, he⟩
          · rw [if_pos (by rw [← nI_0, nI_ltI (by omega) (by omega)]; omega), nI_clamp (by omega)] at hP
            refine ⟨fun q => absurd q (nI_nle (by omega) (by omega)), fun _ => wp_push (by omega) (hP dz' _ (Stk_push hst))⟩
          · rw [if_neg (by decide), if_neg (by decide), if_neg (by decide), if_neg (show ¬ dEn (V', T', st', lf', 3, pl', ra', re', jB', tg') = 0 from (by decide : ¬ (3 : Int32) = 0))] at hP
            exact ⟨fun _ => ⟨fun _ => ⟨fun _ => ⟨fun _ => hP dz' wS hst, fun q => absurd q (by decide)⟩, fun q => absurd q (by decide)⟩, fun q => absurd q (by decide)⟩, fun q => absurd (by decide) q⟩
          · rw [if_neg (by decide), if_pos rfl] at hP
            refine ⟨fun _ => ⟨fun q => absurd rfl q, fun _ => wp_drop hn hst g4 (hP dz' wS (Stk_dr hst))⟩, fun q => absurd (by decide) q⟩
          · rw [if_neg (by decide), if_neg (by decide), if_pos rfl] at hP
            refine ⟨fun _ => ⟨fun _ => ⟨fun q => absurd rfl q, fun _ => ?_⟩, fun q => absurd q (by decide)⟩, fun q => absurd (by decide) q⟩
            unfold wp_Wk_startAt
            obtain ⟨q, rfl⟩ : ∃ z, q = z + 1 := ⟨q - 1, by omega⟩
            have h9 := hP dz' wS trivial
            unfold rpW at h9
            simp only [dTg, nI_clamp (show q + 1 < 2 ^ 31 by omega), Nat.add_sub_cancel, List.length_nil] at h9
            rw [nI_0] at h9
            rw [nI_pred]
            exact h9
          · rw [if_neg (by decide), if_neg (by decide), if_neg (by decide)] at hP
            refine ⟨fun _ => ⟨fun _ => ⟨fun _ => ⟨fun q => ?_, fun q => ?_⟩, fun q => absurd q (by decide)⟩, fun q => absurd q (by decide)⟩, fun q => absurd (by decide) q⟩
            · rw [if_neg (show ¬ dEn (V', T', st', lf', e', pl', ra', re', jB', tg') = 0 from q)] at hP
              exact hP dz' wS hst
            · rw [if_pos (show dEn (V', T', st', lf', e', pl', ra', re', jB', tg') = 0 from q)] at hP
              exact wp_push (by omega) (hP dz' _ (Stk_push hst))
        by_cases hl0 : 0 < left
        · obtain ⟨t, u, e1, e2, e3, e4⟩ := hT x (by omega)
          refine wp_step w hpn c2 c1 hW x1 x2 e1 (by omega) (by rw [hk]; exact nI_pos (by omega)) hl0 (fun dz' => ?_)
          refine fol _ _ _ _ _ _ _ _ _ _ _ dz' ?_ hway
          simp only [stD]
          rw [if_pos hl0]
        · refine wp_step0 hl0 ?_
          refine fol _ _ _ _ _ _ _ _ _ _ _ dz ?_ (Or.inr (Or.inr (Or.inr (Or.inr ⟨rfl, by decide⟩))))
          simp only [stD]
          rw [if_neg hl0]
theorem wp_enter (hpn : pn ≤ 30) {c : Nat} {V : Nat → Int64} {T : Nat → Int32} {steps left pl ra tg : Int32} {re : Int64} {jB wS : Nat → Int32}
    {Q : Int32 → Int64 → Int32 → Int32 → (Nat → Int32) → Prop} (hc : c ≤ pn) (hR : ∀ c : Nat, 1 ≤ c → c ≤ pn → R c = 0 ∨ ∃ y : Nat, R c = nI y ∧ 1 ≤ y ∧ y ≤ n ∧ isS (K y) = true) (hn : n ≤ 200)
    (hQ : ∀ wS', Stk wS' (tnF pn K A B R dEn dTg dEW (stD K A B pn S W aR aT) ([], c, ((V, T, steps, left, 3, pl, ra, re, jB, tg) : Dyn))).1 → Q (tnF pn K A B R dEn dTg dEW (stD K A B pn S W aR aT) ([], c, ((V, T, steps, left, 3, pl, ra, re, jB, tg) : Dyn))).2.2.2.2.2.2.1 (tnF pn K A B R dEn dTg dEW (stD K A B pn S W aR aT) ([], c, ((V, T, steps, left, 3, pl, ra, re, jB, tg) : Dyn))).2.2.2.2.2.2.2.2.2.1 (nI (tnF pn K A B R dEn dTg dEW (stD K A B pn S W aR aT) ([], c, ((V, T, steps, left, 3, pl, ra, re, jB, tg) : Dyn))).1.length) (nI (c + 1)) wS') :
    wp_Wk_enterNextParagraph Q (nI pn) R steps left 3 pl ra re 0 (nI c) wS := by
  unfold wp_Wk_enterNextParagraph
  rw [nI_1]
  simp only [tnF] at hQ
  have g1 : ¬ nI (c + 1) < 1 := by rw [show (1 : Int32) = nI 1 from rfl, nI_ltI (by omega) (by omega)]; omega
  unfold wp_Pg_has
  refine ⟨fun q => absurd q g1, fun _ => ⟨fun q => ?_, fun q => ?_⟩⟩
  · rw [nI_ltI (by omega) (by omega)] at q
    rw [if_neg (by omega)] at hQ
    refine ⟨fun z => absurd rfl z, fun _ => ?_⟩
    have := hQ wS trivial
    simp only [List.length_nil] at this
    rw [nI_0] at this
    exact this
  · have q' := q
    rw [nI_ltI (by omega) (by omega)] at q
    rw [if_pos (by omega)] at hQ
    refine ⟨fun _ => ?_, fun z => absurd z (by decide)⟩
    unfold wp_Pg_rootOf
    refine ⟨fun z => absurd z g1, fun _ => ⟨fun z => absurd z q', fun _ => ⟨vp_in_nI (by omega) (by omega), ?_⟩⟩⟩
    rw [nI_clamp (show c + 1 < 2 ^ 31 by omega)]
    rcases hR (c + 1) (by omega) (by omega) with e | ⟨y, e, y1, y2, y3⟩
    · rw [if_pos e] at hQ
      refine ⟨fun _ => ?_, fun z => absurd e z⟩
      have := hQ wS trivial
      simp only [List.length_nil] at this
      rw [nI_0] at this
      exact this
    · have e0 : ¬ R (c + 1) = 0 := by rw [e]; exact nI_ne0 y1 (by omega)
      rw [if_neg e0] at hQ
      refine ⟨fun z => absurd z e0, fun _ => ?_⟩
      rw [← nI_0]
      refine wp_push (by omega) ?_
      refine hQ _ ⟨?_, trivial⟩
      simp only [List.length_nil]
      rw [pk_us, e, nI_clamp (by omega)]
/-- the class goes along as the turns do -/
theorem wp_goAlong (w : WFn n K A B Z cells) (hpn : pn ≤ 30) (hW : okW cells W) (hR : ∀ c : Nat, 1 ≤ c → c ≤ pn → R c = 0 ∨ ∃ y : Nat, R c = nI y ∧ 1 ≤ y ∧ y ≤ n ∧ isS (K y) = true) :
    ∀ (N t : Nat) (x : List Nat × Nat × Dyn) (dz : Int32) (wS : Nat → Int32), WI n pn K dEn (dI aT) x → Stk wS x.1 → ¬ dEn (TNs pn K A B R dEn dTg dEW (stD K A B pn S W aR aT) N x).2.2 = 3 → t + N < 432864 →
      (∀ dz' wS', Stk wS' (TNs pn K A B R dEn dTg dEW (stD K A B pn S W aR aT) N x).1 → rpW P (TNs pn K A B R dEn dTg dEW (stD K A B pn S W aR aT) N x) dz' wS') →
      wl_Wk_goAlong_2 P (nI n) K A B (nI pn) R S aR aT (nI cells) W (N + 1) x.2.2.1 x.2.2.2.1 x.2.2.2.2.1 x.2.2.2.2.2.1 x.2.2.2.2.2.2.1 x.2.2.2.2.2.2.2.1 x.2.2.2.2.2.2.2.2.1 x.2.2.2.2.2.2.2.2.2.1 x.2.2.2.2.2.2.2.2.2.2.1 dz x.2.2.2.2.2.2.2.2.2.2.2 (nI x.1.length) (nI x.2.1) wS (nI t) := by
  have hw := WK_of w hpn hR
  have hs : SPok n pn K dEn dTg dEW (stD K A B pn S W aR aT) (dI aT) := SP_D w
  intro N
  induction N with
  | zero =>
    intro t x dz wS hWI hS hE ht hP
    simp only [TNs] at hE hP
    have h9 := hP dz wS hS
    exact ⟨fun _ => h9, fun _ => ⟨fun _ => h9, fun c => absurd c hE⟩⟩
  | succ N ih =>
    intro t x dz wS hWI hS hE ht hP
    have e0 : ¬ (432864 : Int32) ≤ nI t := by rw [show (432864 : Int32) = nI 432864 from rfl, nI_leI (by omega) (by omega)]; omega
    by_cases hx : dEn x.2.2 = 3
    · simp only [TNs] at hE hP
      have hWI2 := TN_WI hw hs hWI
      have ih2 := fun dz' wS' h => ih (t + 1) (TN pn K A B R dEn dTg dEW (stD K A B pn S W aR aT) x) dz' wS' hWI2 h hE (by omega) hP
      obtain ⟨l, c, V, T, steps, left, e, pl, ra, re, jB, tg⟩ := x
      have he : e = 3 := hx
      subst he
      have hT : TN pn K A B R dEn dTg dEW (stD K A B pn S W aR aT) (l, c, ((V, T, steps, left, 3, pl, ra, re, jB, tg) : Dyn)) = tnF pn K A B R dEn dTg dEW (stD K A B pn S W aR aT) (l, c, ((V, T, steps, left, 3, pl, ra, re, jB, tg) : Dyn)) := by
        unfold TN; rw [if_pos hx]
      rw [hT] at ih2
      refine ⟨fun q => absurd q e0, fun _ => ⟨fun q => absurd rfl q, fun _ => ?_⟩⟩
      rw [nI_1]
      cases l with
      | nil =>
        refine ⟨fun q => absurd (by simp only [List.length_nil]; exact nI_0) q, fun _ => ?_⟩
        have hc : c ≤ pn := (hWI.2.2.1 hx).1
        simp only [List.length_nil]
        rw [nI_0]
        refine wp_enter (K := K) (A := A) (B := B) (S := S) (W := W) (aR := aR) (aT := aT) (V := V) (T := T) (jB := jB) (tg := tg) hpn hc hR w.1 (fun wS' h => ?_)
        have := ih2 dz wS' h
        simp only [tnF] at this ⊢
        by_cases h1 : c + 1 ≤ pn
        · rw [if_pos h1] at this ⊢
          by_cases h2 : R (c + 1) = 0
          · rw [if_pos h2] at this ⊢; exact this
          · rw [if_neg h2] at this ⊢; exact this
        · rw [if_neg h1] at this ⊢; exact this
      | cons y r =>
        obtain ⟨s1, s2⟩ := hS
        have hr : r.length ≤ 199 := hWI.1.2.2.1
        refine ⟨fun _ => ?_, fun q => absurd q (nI_ne0 (by simp) (by simp only [List.length_cons]; omega))⟩
        simp only [List.length_cons]
        refine wp_pop (by omega) ?_
        rw [s1]
        exact wp_takeUp w hpn hW hWI s2 (fun dz' wS' h => ih2 dz' wS' h)
    · have hst := TNs_end (pn := pn) (K := K) (A := A) (B := B) (R := R) (tg := dTg) (eW := dEW) (st := stD K A B pn S W aR aT) hx (N + 1)
      rw [hst] at hP
      have h9 := hP dz wS hS
      exact ⟨fun _ => h9, fun _ => ⟨fun _ => h9, fun q => absurd q hx⟩⟩
end CW
