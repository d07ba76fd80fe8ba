-- ===== the class's act and step =====
/-- kinds of a statement, as numbers -/
theorem stm_kind {K A B Z : Nat → Int32} {cells s : Nat} (h : okN K A B Z cells s) (hs : isS (K s) = true) : ∃ k : Nat, K s = nI k ∧ (k = 9 ∨ k = 10 ∨ k = 11 ∨ k = 12 ∨ k = 14 ∨ (17 ≤ k ∧ k ≤ 25)) := by
  obtain ⟨k, hk, hK, -⟩ := h
  refine ⟨k, hK, ?_⟩
  rw [hK] at hs
  have h9 : 9 ≤ k := by
    rcases Nat.lt_or_ge k 9 with q | q
    · exfalso
      have : ∀ k : Nat, k < 9 → isS (nI k) = false := by decide +kernel
      rw [this k q] at hs; cases hs
    · exact q
  have h13 : k ≠ 13 ∧ k ≠ 15 ∧ k ≠ 16 := by
    refine ⟨?_, ?_, ?_⟩ <;> rintro rfl <;> exact absurd hs (by decide +kernel)
  omega
theorem l_small {v : Int64} (h1 : (1 : Int64) ≤ v) (h2 : v ≤ 30) : ∃ q : Nat, 1 ≤ q ∧ q ≤ 30 ∧ v = lN q ∧ v.toInt.toNat = q := by
  rw [Int64.le_iff_toInt_le] at h1 h2
  have e1 : (1 : Int64).toInt = 1 := by decide +kernel
  have e2 : (30 : Int64).toInt = 30 := by decide +kernel
  rw [e1] at h1
  rw [e2] at h2
  refine ⟨v.toInt.toNat, by omega, by omega, ?_, rfl⟩
  apply Int64.toInt_inj.mp
  rw [lN_toInt (by omega)]; omega
theorem wp_act {n : Nat} {K A B Z : Nat → Int32} {V : Nat → Int64} {cells : Nat} (w : WFn n K A B Z cells) {pn : Nat} {S W aR aT T : Nat → Int32} {s p t : Nat} (hpn : pn ≤ 30) (hp1 : 1 ≤ p) (hp2 : p ≤ pn) (hW : okW cells W)
    (h1 : 1 ≤ s) (h2 : s ≤ n) (hT : T s = nI t) (ht : t < 2 ^ 31) {steps left place ra dz tg : Int32} {re v : Int64} {c : Int32} {post : Int32 → (Nat → Int64) → (Nat → Int32) → Int32 → Int32 → Int64 → Int32 → Prop}
    (hpost : post (actR K A B pn S W V (ansF aR aT T s) tg ra re s p v c).1 (actR K A B pn S W V (ansF aR aT T s) tg ra re s p v c).2.2.1 (if K s = 25 then tkF aT T s else T) (actR K A B pn S W V (ansF aR aT T s) tg ra re s p v c).2.2.2.2.2 (actR K A B pn S W V (ansF aR aT T s) tg ra re s p v c).2.2.2.1 (actR K A B pn S W V (ansF aR aT T s) tg ra re s p v c).2.2.2.2.1 (actR K A B pn S W V (ansF aR aT T s) tg ra re s p v c).2.1) :
    wp_Sp_act post (nI n) K A B (nI pn) S aR aT (nI cells) W V T steps left 3 place ra re dz tg (nI s) (nI p) v c := by
  have hn := w.1
  have hc := w.2.1
  unfold wp_Sp_act
  refine wp_aOf hn (wp_bOf hn (wp_kindOf hn ?_))
  rw [ax_in h1 h2 hn, ax_in h1 h2 hn, kx_in h1 h2 hn]
  have ok := w.2.2 s h1 h2
  unfold actR at hpost
  refine ⟨fun k => ?_, fun k => ?_, fun k => ?_, fun k => ?_, fun k => ?_, fun k => ?_, fun k => ?_, fun k => ?_, fun k => ?_, fun k => ?_, fun k => ?_, fun k => ?_⟩
  · -- 9
    obtain ⟨hA, -⟩ := okN_k (c := 9) ok k (by omega)
    obtain ⟨q, q1, q2⟩ := hA.1 rfl
    rw [if_pos k, q2, nI_clamp (show q < 2 ^ 31 by omega), if_neg (show ¬ K s = 25 by rw [k]; decide)] at hpost
    rw [q2]
    exact wp_keep hc q1 hW hpost
  · -- 11
    rw [if_neg (show ¬ K s = 9 by rw [k]; decide), if_pos k, if_neg (show ¬ K s = 25 by rw [k]; decide)] at hpost
    rw [lg_cmp_eq]
    refine ⟨fun q => ?_, fun q => ?_⟩
    · rw [if_pos q] at hpost; exact hpost
    · rw [if_neg q] at hpost; exact hpost
  · -- 12
    obtain ⟨-, hB, -⟩ := okN_k (c := 12) ok k (by omega)
    obtain ⟨b, b1, b2, b3, -⟩ := hB.2.2.2.1 rfl
    rw [if_neg (show ¬ K s = 9 by rw [k]; decide), if_neg (show ¬ K s = 11 by rw [k]; decide), if_pos k, if_neg (show ¬ K s = 25 by rw [k]; decide), b3, nI_clamp (show b < 2 ^ 31 by omega)] at hpost
    rw [lg_cmp_eq, b3]
    refine ⟨fun q => wp_bOf hn ?_, fun q => wp_aOf hn ?_⟩
    · rw [if_pos q] at hpost; rw [ax_in b1 (by omega) hn]; exact hpost
    · rw [if_neg q] at hpost; rw [ax_in b1 (by omega) hn]; exact hpost
  · -- 14
    rw [if_neg (show ¬ K s = 9 by rw [k]; decide), if_neg (show ¬ K s = 11 by rw [k]; decide), if_neg (show ¬ K s = 12 by rw [k]; decide), if_pos k, if_neg (show ¬ K s = 25 by rw [k]; decide)] at hpost
    exact hpost
  · -- 17
    obtain ⟨-, -, hq, -⟩ := okN_k (c := 17) ok k (by omega)
    obtain ⟨q, q1, q2, q3⟩ := hq (Or.inl rfl)
    rw [if_neg (show ¬ K s = 9 by rw [k]; decide), if_neg (show ¬ K s = 11 by rw [k]; decide), if_neg (show ¬ K s = 12 by rw [k]; decide), if_neg (show ¬ K s = 14 by rw [k]; decide), if_pos k, if_neg (show ¬ K s = 25 by rw [k]; decide), q3, nI_clamp (show q < 2 ^ 31 by omega), goR_rest] at hpost
    rw [q3]
    exact wp_goTo hpn (by omega) hpost
  · -- 18
    obtain ⟨-, -, hq, -⟩ := okN_k (c := 18) ok k (by omega)
    obtain ⟨q, q1, q2, q3⟩ := hq (Or.inr rfl)
    rw [if_neg (show ¬ K s = 9 by rw [k]; decide), if_neg (show ¬ K s = 11 by rw [k]; decide), if_neg (show ¬ K s = 12 by rw [k]; decide), if_neg (show ¬ K s = 14 by rw [k]; decide), if_neg (show ¬ K s = 17 by rw [k]; decide), if_pos k, if_neg (show ¬ K s = 25 by rw [k]; decide), q3, nI_clamp (show q < 2 ^ 31 by omega)] at hpost
    rw [lg_cmp_lt, lg_cmp_gt, q3]
    refine ⟨fun c1 => ?_, fun c1 => ⟨fun c2 => ?_, fun c2 => ?_⟩⟩
    · rw [if_neg (fun h => absurd c1 (Int64.not_lt.mpr h.1))] at hpost; exact hpost
    · rw [if_neg (fun h => absurd c2 (Int64.not_lt.mpr h.2))] at hpost; exact hpost
    · have g1 := Int64.not_lt.mp c1
      have g2 := Int64.not_lt.mp c2
      rw [if_pos ⟨g1, g2⟩, goR_rest] at hpost
      obtain ⟨r, r1, r2, r3, r4⟩ := l_small g1 g2
      rw [r4] at hpost
      rw [r3, lN_i]
      obtain ⟨q', rfl⟩ : ∃ z, q = z + 1 := ⟨q - 1, by omega⟩
      rw [nI_pred, nI_add]
      exact wp_goTo hpn (by omega) hpost
  · -- 19
    rw [if_neg (show ¬ K s = 9 by rw [k]; decide), if_neg (show ¬ K s = 11 by rw [k]; decide), if_neg (show ¬ K s = 12 by rw [k]; decide), if_neg (show ¬ K s = 14 by rw [k]; decide), if_neg (show ¬ K s = 17 by rw [k]; decide), if_neg (show ¬ K s = 18 by rw [k]; decide), if_pos k, if_neg (show ¬ K s = 25 by rw [k]; decide)] at hpost
    refine ⟨fun q => wp_last hpn hp1 hp2 ?_, fun q => ?_⟩
    · rw [if_neg q] at hpost
      unfold wp_Sp_leaveBehind
      rw [nI_1]; exact hpost
    · rw [if_pos q] at hpost
      unfold wp_Sp_leaveBehind
      rw [nI_1]; exact hpost
  · -- 21
    rw [if_neg (show ¬ K s = 9 by rw [k]; decide), if_neg (show ¬ K s = 11 by rw [k]; decide), if_neg (show ¬ K s = 12 by rw [k]; decide), if_neg (show ¬ K s = 14 by rw [k]; decide), if_neg (show ¬ K s = 17 by rw [k]; decide), if_neg (show ¬ K s = 18 by rw [k]; decide), if_neg (show ¬ K s = 19 by rw [k]; decide), if_pos k, if_neg (show ¬ K s = 25 by rw [k]; decide)] at hpost
    exact hpost
  · -- 23
    rw [if_neg (show ¬ K s = 9 by rw [k]; decide), if_neg (show ¬ K s = 11 by rw [k]; decide), if_neg (show ¬ K s = 12 by rw [k]; decide), if_neg (show ¬ K s = 14 by rw [k]; decide), if_neg (show ¬ K s = 17 by rw [k]; decide), if_neg (show ¬ K s = 18 by rw [k]; decide), if_neg (show ¬ K s = 19 by rw [k]; decide), if_neg (show ¬ K s = 21 by rw [k]; decide), if_pos (Or.inl k), if_neg (show ¬ K s = 25 by rw [k]; decide)] at hpost
    exact hpost
  · -- 24
    rw [if_neg (show ¬ K s = 9 by rw [k]; decide), if_neg (show ¬ K s = 11 by rw [k]; decide), if_neg (show ¬ K s = 12 by rw [k]; decide), if_neg (show ¬ K s = 14 by rw [k]; decide), if_neg (show ¬ K s = 17 by rw [k]; decide), if_neg (show ¬ K s = 18 by rw [k]; decide), if_neg (show ¬ K s = 19 by rw [k]; decide), if_neg (show ¬ K s = 21 by rw [k]; decide), if_pos (Or.inr k), if_neg (show ¬ K s = 25 by rw [k]; decide)] at hpost
    exact hpost
  · -- 25
    rw [if_neg (show ¬ K s = 9 by rw [k]; decide), if_neg (show ¬ K s = 11 by rw [k]; decide), if_neg (show ¬ K s = 12 by rw [k]; decide), if_neg (show ¬ K s = 14 by rw [k]; decide), if_neg (show ¬ K s = 17 by rw [k]; decide), if_neg (show ¬ K s = 18 by rw [k]; decide), if_neg (show ¬ K s = 19 by rw [k]; decide), if_neg (show ¬ K s = 21 by rw [k]; decide), if_neg (show ¬ (K s = 23 ∨ K s = 24) by rw [k]; decide), if_pos k, if_pos k] at hpost
    refine wp_takeAnswer (by omega) hT ht ?_
    unfold wp_Sp_byAnswer
    refine ⟨fun q => ⟨fun q2 => ⟨fun q3 => ?_, fun q3 => ?_⟩, fun q2 => ?_⟩, fun q => ?_⟩
    · rw [if_neg q, if_neg (not_not_intro q2), if_neg (Int32.not_lt.mpr q3)] at hpost
      exact hpost
    · rw [if_neg q, if_neg (not_not_intro q2), if_pos (Int32.not_le.mp q3)] at hpost
      exact hpost
    · rw [if_neg q, if_pos q2] at hpost
      exact hpost
    · rw [if_pos q] at hpost
      exact hpost
  · obtain ⟨k9, k11, k12, k14, k17, k18, k19, k21, k23, k24, k25⟩ := k
    rw [if_neg k9, if_neg k11, if_neg k12, if_neg k14, if_neg k17, if_neg k18, if_neg k19, if_neg k21, if_neg (fun h => h.elim k23 k24), if_neg k25, if_neg k25] at hpost
    exact hpost
theorem wp_needed {post : Int32 → Prop} {n : Nat} {K A B Z : Nat → Int32} {cells s : Nat} (w : WFn n K A B Z cells) (h1 : 1 ≤ s) (h2 : s ≤ n) (hp : post (nvF K A B s)) : wp_Nd_valueNeededBy post (nI n) K A B (nI s) := by
  have hn := w.1
  obtain ⟨k, hk, hK, -⟩ := w.2.2 s h1 h2
  unfold wp_Nd_valueNeededBy
  refine wp_kindOf hn ?_
  rw [kx_in h1 h2 hn]
  unfold nvF at hp
  rw [hK] at hp ⊢
  have v26 : vp_in (nI k) 26 := vp_in_nI (by omega) (by omega)
  refine ⟨fun c => absurd c (nI_pos (by omega)), fun _ => ⟨fun _ => ⟨v26, fun c => ⟨v26, fun c2 => ?_, fun c2 => wp_bOf hn ?_⟩, fun c => wp_aOf hn ?_⟩, fun c => absurd ?_ c⟩⟩
  · rwa [if_neg c, if_neg c2] at hp
  · rw [if_neg c, if_pos c2] at hp; rw [ax_in h1 h2 hn]; exact hp
  · rw [if_pos c] at hp; rw [ax_in h1 h2 hn]; exact hp
  · rw [show (25 : Int32) = nI 25 from rfl, nI_leI (by omega) (by omega)]; omega
/-- the value that is needed is one -/
theorem nv_val {n : Nat} {K A B Z : Nat → Int32} {cells s : Nat} (w : WFn n K A B Z cells) (h1 : 1 ≤ s) (h2 : s ≤ n) (h0 : ¬ nvF K A B s = 0) : ∃ i : Nat, nvF K A B s = nI i ∧ 1 ≤ i ∧ i < s ∧ isV (K i) = true := by
  have hn := w.1
  obtain ⟨k, hk, hK, hA, hB, -⟩ := w.2.2 s h1 h2
  unfold nvF at h0 ⊢
  rw [hK, nI_clamp (by omega)] at h0 ⊢
  by_cases c : tNA k = 2
  · rw [if_pos c]
    obtain ⟨i, i1, i2, i3, i4⟩ := hA.2.1 c
    exact ⟨i, i3, i1, i2, i4⟩
  · rw [if_neg c] at h0 ⊢
    by_cases c2 : tNB k = 2
    · rw [if_pos c2]
      obtain ⟨i, i1, i2, i3, i4⟩ := hB.2.1 c2
      exact ⟨i, i3, i1, i2, i4⟩
    · rw [if_neg c2] at h0; exact absurd rfl h0
theorem eval_list {n : Nat} {K A B Z : Nat → Int32} {cells s : Nat} (w : WFn n K A B Z cells) (h1 : 1 ≤ s) (h2 : s ≤ n) (k : K s = 14) : ∃ l : Nat, B s = nI l ∧ l < s ∧ isL K n l := by
  obtain ⟨-, hB, -⟩ := okN_k (c := 14) (w.2.2 s h1 h2) k (by omega)
  obtain ⟨l, l1, l2, l3, l4⟩ := hB.2.2.2.2.1 rfl
  exact ⟨l, l3, l2, Or.inr ⟨l1, by omega, by simpa using l4⟩⟩
def begB (steps : Int32) (jB : Nat → Int32) (s : Nat) : Nat → Int32 := if steps < 1000 then upd jB steps.toNatClampNeg (nI s) else jB
theorem wp_step {n : Nat} {K A B Z : Nat → Int32} {V : Nat → Int64} {cells : Nat} (w : WFn n K A B Z cells) {pn : Nat} {S W aR aT T : Nat → Int32} {s p t : Nat} (hpn : pn ≤ 30) (hp1 : 1 ≤ p) (hp2 : p ≤ pn) (hW : okW cells W)
    (h1 : 1 ≤ s) (h2 : s ≤ n) (hT : T s = nI t) (ht : t < 2 ^ 31) {steps left place ra dz tg : Int32} {re : Int64} {jB : Nat → Int32} (hst : ¬ steps < 0) (hl : 0 < left)
    {post : Int32 → (Nat → Int64) → (Nat → Int32) → Int32 → Int32 → Int32 → Int32 → Int32 → Int64 → (Nat → Int32) → Int32 → Int32 → Prop}
    (hpost : ∀ dz', post (stepR K A B pn S W V (ansF aR aT T s) tg ra re s p).1 (stepR K A B pn S W V (ansF aR aT T s) tg ra re s p).2.2.1 (if K s = 25 then tkF aT T s else T) (steps + 1) (left - 1) (stepR K A B pn S W V (ansF aR aT T s) tg ra re s p).2.2.2.2.2 place (stepR K A B pn S W V (ansF aR aT T s) tg ra re s p).2.2.2.1 (stepR K A B pn S W V (ansF aR aT T s) tg ra re s p).2.2.2.2.1 (begB steps jB s) dz' (stepR K A B pn S W V (ansF aR aT T s) tg ra re s p).2.1) :
    wp_Sp_step post (nI n) K A B (nI pn) S aR aT (nI cells) W V T steps left 3 place ra re jB dz tg (nI s) (nI p) := by
  have hn := w.1
  unfold wp_Sp_step
  -- beginning
  have hbeg : ∀ {P : Int32 → Int32 → Int32 → Int32 → Int32 → (Nat → Int32) → Prop}, P 1 (steps + 1) (left - 1) 3 place (begB steps jB s) → wp_Jo_begins P steps left 3 place ra re jB (nI s) := by
    intro P hP
    unfold begB at hP
    unfold wp_Jo_begins
    refine ⟨fun _ => ⟨fun c => absurd c hst, fun _ => ⟨fun c => ?_, fun c => ⟨?_, ?_⟩⟩⟩, fun c => absurd hl c⟩
    · rwa [if_neg (Int32.not_lt.mpr c)] at hP
    · exact vp_of0 (n := 1000) hst c (by omega) (by omega)
    · rwa [if_pos (Int32.not_le.mp c)] at hP
  refine hbeg ⟨fun _ => wp_needed w h1 h2 ?_, fun c => absurd c (by decide)⟩
  unfold stepR valS at hpost
  -- what is done when the value v is there, the flag at 0
  have noEval : ∀ (v : Int64) (dz2 : Int32), dz2 = 0 → ¬ K s = 14 → valS K A B V s = some (v, 0) → wp_Sp_act (fun r_102 sV_102 sT_102 jo_end_102 jo_raised_102 jo_result_102 sp_target_102 => post r_102 sV_102 sT_102 (steps + 1) (left - 1) jo_end_102 place jo_raised_102 jo_result_102 (begB steps jB s) dz2 sp_target_102) (nI n) K A B (nI pn) S aR aT (nI cells) W V T (steps + 1) (left - 1) 3 place ra re dz2 tg (nI s) (nI p) v 0 := by
    intro v dz2 _ _ hv
    refine wp_act w hpn hp1 hp2 hW h1 h2 hT ht ?_
    unfold valS at hv
    rw [hv] at hpost
    exact hpost dz2
  have eval : ∀ (v : Int64) (c : Int32) (dz2 : Int32), valS K A B V s = some (v, c) → wp_Sp_act (fun r_102 sV_102 sT_102 jo_end_102 jo_raised_102 jo_result_102 sp_target_102 => post r_102 sV_102 sT_102 (steps + 1) (left - 1) jo_end_102 place jo_raised_102 jo_result_102 (begB steps jB s) dz2 sp_target_102) (nI n) K A B (nI pn) S aR aT (nI cells) W V T (steps + 1) (left - 1) 3 place ra re dz2 tg (nI s) (nI p) v c := by
    intro v c dz2 hv
    refine wp_act w hpn hp1 hp2 hW h1 h2 hT ht ?_
    unfold valS at hv
    rw [hv] at hpost
    exact hpost dz2
  have bad : valS K A B V s = none → ∀ dz2, post (-3) V T (steps + 1) (left - 1) 2 place 1 re (begB steps jB s) dz2 tg := by
    intro hv dz2
    have h25 : ¬ K s = 25 := by
      intro k
      have e0 : nvF K A B s = 0 := by unfold nvF; rw [k]; rfl
      unfold valS at hv
      have h14 : ¬ K s = 14 := by rw [k]; decide
      rw [if_pos e0] at hv
      simp only [Option.bind, if_neg h14] at hv
      cases hv
    unfold valS at hv
    rw [hv, if_neg h25] at hpost
    exact hpost dz2
  refine ⟨fun c0 => ?_, fun c0 => ?_⟩
  · obtain ⟨i, i1, i2, i3, i4⟩ := nv_val w h1 h2 c0
    have hvs : valS K A B V s = (EV K A B V i).bind fun v => if K s = 14 then (ftF K A B V 200 (B s).toNatClampNeg v).bind fun c => some (v, c) else some (v, 0) := by
      unfold valS; rw [if_neg c0, i1, nI_clamp (by omega)]
    rw [i1]
    refine wp_reckon0 w i2 (by omega) i4 (fun v hv => ?_) (fun hv v => ?_)
    · refine wp_kindOf hn ?_
      rw [kx_in h1 h2 hn]
      refine ⟨fun k => ⟨fun _ => ?_, fun c => absurd rfl c⟩, fun k => ?_⟩
      · exact eval v 0 0 (by rw [hvs, hv]; simp only [Option.bind, if_neg k])
      · obtain ⟨l, l1, l2, l3⟩ := eval_list w h1 h2 k
        refine wp_bOf hn ?_
        rw [ax_in h1 h2 hn, l1]
        have hvs2 : valS K A B V s = (ftF K A B V 200 l v).bind fun c => some (v, c) := by
          rw [hvs, hv]; simp only [Option.bind, if_pos k, l1, nI_clamp (show l < 2 ^ 31 by omega)]
        refine wl_ff w l 0 200 l3 (by omega) (by omega) (fun c hc => ⟨fun _ => ?_, fun c2 => absurd rfl c2⟩) (fun hc r => ⟨fun c2 => absurd c2 (by decide), fun _ => bad (by rw [hvs2, hc]; rfl) _⟩)
        exact eval v c 0 (by rw [hvs2, hc]; rfl)
    · have hb := bad (by rw [hvs, hv]; rfl)
      refine wp_kindOf hn ?_
      rw [kx_in h1 h2 hn]
      refine ⟨fun k => ⟨fun c => absurd c (by decide), fun _ => hb _⟩, fun k => ?_⟩
      obtain ⟨l, l1, l2, l3⟩ := eval_list w h1 h2 k
      refine wp_bOf hn ?_
      rw [ax_in h1 h2 hn, l1]
      exact wl_ff_any w (fun r => ⟨fun c => absurd c (by decide), fun _ => hb _⟩) l 0 l3 (by omega)
  · refine wp_kindOf hn ?_
    rw [kx_in h1 h2 hn]
    have k14 : ¬ K s = 14 := by
      intro k
      obtain ⟨hA, -⟩ := okN_k (c := 14) (w.2.2 s h1 h2) k (by omega)
      obtain ⟨i, i1, i2, i3, -⟩ := hA.2.1 rfl
      unfold nvF at c0
      rw [k, if_pos (by rfl), i3] at c0
      exact absurd c0 (nI_ne0 i1 (by omega))
    refine ⟨fun k => ⟨fun _ => ?_, fun c => absurd rfl c⟩, fun k => absurd k k14⟩
    exact eval 0 0 0 (by unfold valS; rw [if_pos c0]; simp only [Option.bind, if_neg k14])
