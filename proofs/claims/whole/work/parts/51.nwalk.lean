-- ===== the class's walk into the nodes =====
def rpI (P : Int32 → (Nat → Int64) → (Nat → Int32) → Int32 → Int32 → Int32 → Int32 → Int32 → Int64 → (Nat → Int32) → Int32 → Int32 → Prop) (q : Int32 × Dyn) (dz : Int32) : Prop :=
  P q.1 q.2.1 q.2.2.1 q.2.2.2.1 q.2.2.2.2.1 q.2.2.2.2.2.1 q.2.2.2.2.2.2.1 q.2.2.2.2.2.2.2.1 q.2.2.2.2.2.2.2.2.1 q.2.2.2.2.2.2.2.2.2.1 dz q.2.2.2.2.2.2.2.2.2.2
section NW
variable {n : Nat} {K A B Z : Nat → Int32} {cells : Nat} {pn : Nat} {S W aR aT R : Nat → Int32}
theorem wp_goInto (w : WFn n K A B Z cells) (hpn : pn ≤ 30) (hW : okW cells W) (hR : ∀ c : Nat, 1 ≤ c → c ≤ pn → R c = 0 ∨ ∃ y : Nat, R c = nI y ∧ 1 ≤ y ∧ y ≤ n ∧ isS (K y) = true) :
    ∀ (f s p dp : Nat) (d : Dyn) (dz : Int32) (P : Int32 → (Nat → Int64) → (Nat → Int32) → Int32 → Int32 → Int32 → Int32 → Int32 → Int64 → (Nat → Int32) → Int32 → Int32 → Prop), s < f → dp + s ≤ 200 → 1 ≤ s → s ≤ n → isS (K s) = true → 1 ≤ p → p ≤ pn → dI aT d → dEn d = 3 →
      (∀ dz', rpI P (goI K A B (stD K A B pn S W aR aT) f s p d) dz') →
      wp_Nw_goInto f P (nI n) K A B (nI pn) S aR aT (nI cells) W d.1 d.2.1 d.2.2.1 d.2.2.2.1 d.2.2.2.2.1 d.2.2.2.2.2.1 d.2.2.2.2.2.2.1 d.2.2.2.2.2.2.2.1 d.2.2.2.2.2.2.2.2.1 dz d.2.2.2.2.2.2.2.2.2 (nI s) (nI p) (nI dp) := by
  have hn := w.1
  have hw := WK_of w hpn hR
  have hs : SPok n pn K dEn dTg dEW (stD K A B pn S W aR aT) (dI aT) := SP_D w
  intro f
  induction f with
  | zero => intro s p dp d dz P h; omega
  | succ f ih =>
    intro s p dp d dz P hsf hdp s1 s2 s3 p1 p2 hI he hP
    obtain ⟨hn', hp', hr', h10, h22⟩ := id hw
    unfold wp_Nw_goInto
    refine ⟨fun _ => wp_kindOf hn ?_, fun q => absurd ?_ q⟩
    · rw [kx_in s1 s2 hn]
      simp only [goI] at hP
      by_cases k10 : K s = 10
      · rw [if_pos k10] at hP
        obtain ⟨a, b, hA, hB, a1, a2, b1, b2, a3, b3⟩ := h10 s s1 s2 k10
        rw [hA, hB, nI_clamp (show a < 2 ^ 31 by omega), nI_clamp (show b < 2 ^ 31 by omega)] at hP
        refine ⟨fun q => absurd k10 q, fun _ => wp_aOf hn ?_⟩
        rw [ax_in s1 s2 hn, hA, nI_1]
        refine ih a p (dp + 1) d dz _ (by omega) (by omega) a1 (by omega) a3 p1 p2 hI he (fun dz' => ⟨fun q => ?_, fun q => wp_bOf hn ?_⟩)
        · rw [if_neg q] at hP; exact hP dz'
        · rw [if_pos q] at hP
          rw [ax_in s1 s2 hn, hB]
          obtain ⟨iA, cA⟩ := goI_ok hw hs f a p d [] (by omega) a1 (by omega) a3 p1 p2 hI he
          have e : dEn (goI K A B (stD K A B pn S W aR aT) f a p d).2 = 3 := by
            rcases cA with ⟨_, e, _⟩ | ⟨_, e, _⟩ | ⟨_, e, _⟩ | ⟨w', _⟩
            · exact e
            · exact e
            · exact e
            · exact absurd (q.symm.trans w') (by decide)
          exact ih b p (dp + 1) _ dz' _ (by omega) (by omega) b1 (by omega) b3 p1 p2 iA e hP
      · rw [if_neg k10] at hP
        by_cases k22 : K s = 22
        · rw [if_pos k22] at hP
          obtain ⟨a, hA, a1, a2, a3⟩ := h22 s s1 s2 k22
          rw [hA, nI_clamp (show a < 2 ^ 31 by omega)] at hP
          refine ⟨fun _ => ⟨fun q => absurd k22 q, fun _ => wp_aOf hn ?_⟩, fun q => absurd q k10⟩
          rw [ax_in s1 s2 hn, hA, nI_1]
          refine ih a p (dp + 1) d dz _ (by omega) (by omega) a1 (by omega) a3 p1 p2 hI he (fun dz' => ⟨fun q => ?_, fun q => ?_⟩)
          · rw [if_neg q] at hP; exact hP dz'
          · rw [if_pos q] at hP; exact hP dz'
        · rw [if_neg k22] at hP
          refine ⟨fun _ => ⟨fun _ => ?_, fun q => absurd q k22⟩, fun q => absurd q k10⟩
          obtain ⟨i1, i2⟩ := hs.2 s p d s1 s2 s3 p1 p2 hI he
          obtain ⟨V, T, steps, left, e, pl, ra, re, jB, tg⟩ := d
          have he' : e = 3 := he
          subst he'
          obtain ⟨hT, kk, ll, hk, hl, hkl⟩ := hI
          simp only at hT hk hl
          have fol : ∀ (way : Int32) (d' : Dyn) (dz' : Int32), stD K A B pn S W aR aT s p (V, T, steps, left, 3, pl, ra, re, jB, tg) = (way, d') →
              (way ≤ 0 → P way d'.1 d'.2.1 d'.2.2.1 d'.2.2.2.1 d'.2.2.2.2.1 d'.2.2.2.2.2.1 d'.2.2.2.2.2.2.1 d'.2.2.2.2.2.2.2.1 d'.2.2.2.2.2.2.2.2.1 dz' d'.2.2.2.2.2.2.2.2.2) ∧
              (¬ way ≤ 0 → wp_Nw_goInto f (fun r_132 sV_132 sT_132 jo_steps_132 jo_left_132 jo_end_132 jo_place_132 jo_raised_132 jo_result_132 jB_132 sp_dividedByZero_132 sp_target_132 => P r_132 sV_132 sT_132 jo_steps_132 jo_left_132 jo_end_132 jo_place_132 jo_raised_132 jo_result_132 jB_132 sp_dividedByZero_132 sp_target_132) (nI n) K A B (nI pn) S aR aT (nI cells) W d'.1 d'.2.1 d'.2.2.1 d'.2.2.2.1 d'.2.2.2.2.1 d'.2.2.2.2.2.1 d'.2.2.2.2.2.2.1 d'.2.2.2.2.2.2.2.1 d'.2.2.2.2.2.2.2.2.1 dz' d'.2.2.2.2.2.2.2.2.2 way (nI p) (nI dp + 1)) := by
            intro way d' dz' hsd
            rw [hsd] at hP i1 i2
            dsimp only at hP i1 i2
            refine ⟨fun q => ?_, fun q => ?_⟩
            · rw [if_neg (fun h => Int32.not_lt.mpr q h)] at hP
              exact hP dz'
            · rw [if_pos (Int32.not_le.mp q)] at hP
              rcases i2 with ⟨y, e1, y1, y2, y3, e2⟩ | ⟨e1, _⟩ | ⟨e1, _⟩ | ⟨e1, _⟩ | ⟨e1, _⟩
              · subst e1
                rw [nI_clamp (by omega)] at hP
                rw [nI_1]
                exact ih y p (dp + 1) d' dz' _ (by omega) (by omega) y1 (by omega) y3 p1 p2 i1 e2 hP
              · exact absurd (by rw [e1]; decide) q
              · exact absurd (by rw [e1]; decide) q
              · exact absurd (by rw [e1]; decide) q
              · exact absurd (by rw [e1]; decide) q
          by_cases hl0 : 0 < left
          · obtain ⟨t, u, e1, e2, e3, e4⟩ := hT s (by omega)
            refine wp_step w hpn p1 p2 hW s1 s2 e1 (by omega) (by rw [hk]; exact nI_pos (by omega)) hl0 (fun dz' => ?_)
            have hsd : stD K A B pn S W aR aT s p (V, T, steps, left, 3, pl, ra, re, jB, tg) = ((stepR K A B pn S W V (ansF aR aT T s) tg ra re s p).1, ((stepR K A B pn S W V (ansF aR aT T s) tg ra re s p).2.2.1, (if K s = 25 then tkF aT T s else T), steps + 1, left - 1, (stepR K A B pn S W V (ansF aR aT T s) tg ra re s p).2.2.2.2.2, pl, (stepR K A B pn S W V (ansF aR aT T s) tg ra re s p).2.2.2.1, (stepR K A B pn S W V (ansF aR aT T s) tg ra re s p).2.2.2.2.1, begB steps jB s, (stepR K A B pn S W V (ansF aR aT T s) tg ra re s p).2.1)) := by
              simp only [stD]
              rw [if_pos hl0]
            exact fol _ _ dz' hsd
          · have hsd : stD K A B pn S W aR aT s p (V, T, steps, left, 3, pl, ra, re, jB, tg) = (-3, (V, T, steps, left, 0, nI s, ra, re, jB, tg)) := by
              simp only [stD]
              rw [if_neg hl0]
            refine wp_step0 hl0 ?_
            exact fol _ _ dz hsd
    · rw [show (200 : Int32) = nI 200 from rfl, nI_leI (by omega) (by omega)]; omega
theorem wp_goFrom (w : WFn n K A B Z cells) (hpn : pn ≤ 30) (hW : okW cells W) (hR : ∀ c : Nat, 1 ≤ c → c ≤ pn → R c = 0 ∨ ∃ y : Nat, R c = nI y ∧ 1 ≤ y ∧ y ≤ n ∧ isS (K y) = true)
    {P : (Nat → Int64) → (Nat → Int32) → Int32 → Int32 → Int32 → Int32 → Int32 → Int64 → (Nat → Int32) → Int32 → Int32 → Prop} :
    ∀ (f t c : Nat) (d : Dyn) (dz : Int32), 1 ≤ c → WI n pn K dEn (dI aT) ([], c - 1, d) → muW dEn dLf (([], c - 1, d) : List Nat × Nat × Dyn) < f → t + f ≤ 432864 →
      (∀ dz', (P (gFw pn K A B R dEn dTg dEW (stD K A B pn S W aR aT) f c d).1 (gFw pn K A B R dEn dTg dEW (stD K A B pn S W aR aT) f c d).2.1 (gFw pn K A B R dEn dTg dEW (stD K A B pn S W aR aT) f c d).2.2.1 (gFw pn K A B R dEn dTg dEW (stD K A B pn S W aR aT) f c d).2.2.2.1 (gFw pn K A B R dEn dTg dEW (stD K A B pn S W aR aT) f c d).2.2.2.2.1 (gFw pn K A B R dEn dTg dEW (stD K A B pn S W aR aT) f c d).2.2.2.2.2.1 (gFw pn K A B R dEn dTg dEW (stD K A B pn S W aR aT) f c d).2.2.2.2.2.2.1 (gFw pn K A B R dEn dTg dEW (stD K A B pn S W aR aT) f c d).2.2.2.2.2.2.2.1 (gFw pn K A B R dEn dTg dEW (stD K A B pn S W aR aT) f c d).2.2.2.2.2.2.2.2.1 dz' (gFw pn K A B R dEn dTg dEW (stD K A B pn S W aR aT) f c d).2.2.2.2.2.2.2.2.2)) →
      wl_Nw_goFrom_4 P (nI n) K A B (nI pn) R S aR aT (nI cells) W f d.1 d.2.1 d.2.2.1 d.2.2.2.1 d.2.2.2.2.1 d.2.2.2.2.2.1 d.2.2.2.2.2.2.1 d.2.2.2.2.2.2.2.1 d.2.2.2.2.2.2.2.2.1 dz d.2.2.2.2.2.2.2.2.2 (nI c) (nI t) := by
  have hn := w.1
  have hw := WK_of w hpn hR
  have hs : SPok n pn K dEn dTg dEW (stD K A B pn S W aR aT) (dI aT) := SP_D w
  have hl : LFok n pn K dEn (stD K A B pn S W aR aT) (dI aT) dLf := LF_D
  intro f
  induction f with
  | zero => intro t c d dz _ _ h; omega
  | succ f ih =>
    intro t c d dz c1 hWI hmu ht hP
    have e0 : ¬ (432864 : Int32) ≤ nI t := by rw [show (432864 : Int32) = nI 432864 from rfl, nI_leI (by omega) (by omega)]; omega
    simp only [gFw] at hP
    have hcp : c ≤ pn + 2 := by have := hWI.2.2.2; simp only at this; omega
    by_cases he : dEn d = 3
    · rw [if_pos he] at hP
      have hI : dI aT d := hWI.2.1
      have g1 : ¬ nI c < 1 := by rw [show (1 : Int32) = nI 1 from rfl, nI_ltI (by omega) (by omega)]; omega
      refine ⟨fun q => absurd q e0, fun _ => ⟨fun q => absurd he q, fun _ => ?_⟩⟩
      unfold wp_Pg_has
      refine ⟨fun q => absurd q g1, fun _ => ⟨fun q => ?_, fun q => ?_⟩⟩
      · rw [nI_ltI (by omega) (by omega)] at q
        rw [if_neg (by omega)] at hP
        exact ⟨fun z => absurd rfl z, fun _ => hP dz⟩
      · have q' := q
        rw [nI_ltI (by omega) (by omega)] at q
        have hc : c ≤ pn := by omega
        rw [if_pos hc] at hP
        refine ⟨fun _ => ?_, fun z => absurd z (by decide)⟩
        unfold wp_Pg_rootOf
        refine ⟨fun z => absurd z g1, fun _ => ⟨fun z => absurd z q', fun _ => ⟨vp_in_nI (by omega) (by omega), ?_⟩⟩⟩
        rw [nI_clamp (show c < 2 ^ 31 by omega), nI_1, nI_1]
        have hTN : TN pn K A B R dEn dTg dEW (stD K A B pn S W aR aT) ([], c - 1, d) = (if R c = 0 then ([], c, d) else ([(R c).toNatClampNeg], c, d)) := by
          unfold TN
          rw [if_pos he]
          simp only [tnF]
          rw [show c - 1 + 1 = c by omega, if_pos hc]
        -- going on from a later place
        have on : ∀ (k c2 : Nat) (d2 : Dyn) (dz' : Int32), 1 ≤ c2 → TNs pn K A B R dEn dTg dEW (stD K A B pn S W aR aT) (k + 1) ([], c - 1, d) = ([], c2 - 1, d2) → dEn d2 = 3 →
            (∀ dz', (P (gFw pn K A B R dEn dTg dEW (stD K A B pn S W aR aT) f c2 d2).1 (gFw pn K A B R dEn dTg dEW (stD K A B pn S W aR aT) f c2 d2).2.1 (gFw pn K A B R dEn dTg dEW (stD K A B pn S W aR aT) f c2 d2).2.2.1 (gFw pn K A B R dEn dTg dEW (stD K A B pn S W aR aT) f c2 d2).2.2.2.1 (gFw pn K A B R dEn dTg dEW (stD K A B pn S W aR aT) f c2 d2).2.2.2.2.1 (gFw pn K A B R dEn dTg dEW (stD K A B pn S W aR aT) f c2 d2).2.2.2.2.2.1 (gFw pn K A B R dEn dTg dEW (stD K A B pn S W aR aT) f c2 d2).2.2.2.2.2.2.1 (gFw pn K A B R dEn dTg dEW (stD K A B pn S W aR aT) f c2 d2).2.2.2.2.2.2.2.1 (gFw pn K A B R dEn dTg dEW (stD K A B pn S W aR aT) f c2 d2).2.2.2.2.2.2.2.2.1 dz' (gFw pn K A B R dEn dTg dEW (stD K A B pn S W aR aT) f c2 d2).2.2.2.2.2.2.2.2.2)) →
            wl_Nw_goFrom_4 P (nI n) K A B (nI pn) R S aR aT (nI cells) W f d2.1 d2.2.1 d2.2.2.1 d2.2.2.2.1 d2.2.2.2.2.1 d2.2.2.2.2.2.1 d2.2.2.2.2.2.2.1 d2.2.2.2.2.2.2.2.1 d2.2.2.2.2.2.2.2.2.1 dz' d2.2.2.2.2.2.2.2.2.2 (nI c2) (nI (t + 1)) := by
          intro k c2 d2 dz' h1 h2 h3 h4
          have hW2 := TNs_WI hw hs (k + 1) hWI
          rw [h2] at hW2
          have hmu2 := mu_k hw hs hl (k + 1) hWI (by rw [h2]; exact h3)
          rw [h2] at hmu2
          exact ih (t + 1) c2 d2 dz' h1 hW2 (by omega) (by omega) h4
        have step1 : ∀ (k : Nat) (y : List Nat × Nat × Dyn), TNs pn K A B R dEn dTg dEW (stD K A B pn S W aR aT) k (TN pn K A B R dEn dTg dEW (stD K A B pn S W aR aT) ([], c - 1, d)) = y → TNs pn K A B R dEn dTg dEW (stD K A B pn S W aR aT) (k + 1) ([], c - 1, d) = y := fun k y h => h
        rcases hR c c1 hc with z | ⟨y, z, y1, y2, y3⟩
        · rw [if_pos z] at hP hTN
          refine ⟨fun z' => absurd z z', fun _ => ⟨fun _ => ?_, fun z' => absurd z' (by decide)⟩⟩
          exact on 0 (c + 1) d dz (by omega) (step1 0 _ (by simp only [TNs]; rw [hTN]; rfl)) he hP
        · have z0 : ¬ R c = 0 := by rw [z]; exact nI_ne0 y1 (by omega)
          rw [if_neg z0, z, nI_clamp (show y < 2 ^ 31 by omega)] at hP hTN
          refine ⟨fun _ => ?_, fun z' => absurd z' z0⟩
          rw [z, ← nI_0]
          obtain ⟨iA, cA⟩ := goI_ok hw hs 202 y c d [] (by omega) y1 y2 y3 c1 hc hI he
          refine wp_goInto w hpn hW hR 202 y c 0 d dz _ (by omega) (by omega) y1 y2 y3 c1 hc hI he (fun dz' => ⟨fun q2 => ?_, fun q2 => ?_⟩)
          · rw [if_neg q2] at hP
            rcases cA with ⟨w', e, k, hk⟩ | ⟨w', e, k, hk⟩ | ⟨w', e, -, k, hk⟩ | ⟨w', e, k, l, hk⟩
            · exact on (k + 1) (c + 1) _ dz' (by omega) (step1 (k + 1) _ (by rw [hTN, hk]; rfl)) e hP
            · exact on (k + 1) (c + 1) _ dz' (by omega) (step1 (k + 1) _ (by rw [hTN, hk]; rfl)) e hP
            · exact absurd w' q2
            · -- ended
              obtain ⟨f, rfl⟩ : ∃ g, f = g + 1 := ⟨f - 1, by unfold muW at hmu; rw [if_pos (show dEn (([], c - 1, d) : List Nat × Nat × Dyn).2.2 = 3 from he)] at hmu; omega⟩
              simp only [gFw] at hP
              rw [if_neg e] at hP
              exact ⟨fun _ => hP dz', fun _ => ⟨fun _ => hP dz', fun z' => absurd z' e⟩⟩
          · rw [if_pos q2] at hP
            rcases cA with ⟨w', e, k, hk⟩ | ⟨w', e, k, hk⟩ | ⟨w', e, ⟨tq, t1, t2, t3⟩, k, hk⟩ | ⟨w', e, k, l, hk⟩
            · exact absurd (w'.symm.trans q2) (by decide)
            · exact absurd (w'.symm.trans q2) (by decide)
            · have ht3 : (goI K A B (stD K A B pn S W aR aT) 202 y c d).2.2.2.2.2.2.2.2.2.2 = nI tq := t3
              rw [t3, nI_clamp (show tq < 2 ^ 31 by omega)] at hP
              rw [t3, nI_clamp (show tq < 2 ^ 31 by omega)] at hk
              have := on (k + 1) tq _ dz' t1 (step1 (k + 1) _ (by rw [hTN, hk])) e hP
              rw [ht3] at this ⊢
              exact this
            · exact absurd (w'.symm.trans q2) (by decide)
    · rw [if_neg he] at hP
      exact ⟨fun _ => hP dz, fun _ => ⟨fun _ => hP dz, fun q => absurd q he⟩⟩
end NW
