-- ===== the reference's act, by the same step function =====
theorem nI_20s {s : Nat} (h : 1 ≤ s) : (20 : Int32) * nI s - 20 = nI (20 * s - 20) := by
  rw [show (20 : Int32) = nI 20 from rfl, pk_mul, pk_sub (by omega)]
theorem QR_same {aR aT T N Q N' Q' : Nat → Int32} {s : Nat} (hQ : QR aR aT T N Q) (h1 : 1 ≤ s) (c : 0 < aT s - T s) (hN : N' = upd N s (N s - 1)) {cnt : Nat} (hcnt : N s = nI (cnt + 1)) (hc : cnt ≤ 19)
    (hq1 : ∀ i, i < cnt → Q' (20 * s - 20 + i) = Q (20 * s - 20 + (i + 1))) (hq2 : ∀ x, x < 20 * s - 20 ∨ 20 * s - 20 + cnt ≤ x → Q' x = Q x) : QR aR aT (tkF aT T s) N' Q' := by
  intro z z1 z2
  obtain ⟨t, u, e1, e2, e3, e4, e5, e6, e7⟩ := hQ z z1 z2
  unfold tkF
  rw [if_pos c]
  by_cases hz : z = s
  · subst hz
    have hut : u - t = cnt + 1 := by
      have e := e6.symm.trans hcnt
      rwa [nI_eq (by omega) (by omega)] at e
    refine ⟨t + 1, u, by rw [pk_us, e1, nI_1], e2, by omega, by omega, e5, ?_, ?_⟩
    · rw [hN, pk_us, hcnt, nI_pred]
      congr 1
      omega
    · intro j hj
      rw [hq1 j (by omega), show t + 1 + j = t + (j + 1) by omega]
      exact e7 (j + 1) (by omega)
  · refine ⟨t, u, by rw [pk_un hz]; exact e1, e2, e3, e4, e5, by rw [hN, pk_un hz]; exact e6, ?_⟩
    intro j hj
    rw [hq2 _ (by omega)]
    exact e7 j hj
def waF (aT T : Nat → Int32) (wa : Int32) (s : Nat) : Int32 := if 0 < aT s - T s then wa - 1 else wa
section RT
variable {th : Int32} {sn : Int64} {ce no be ra ne is' fa : Int32} {re : Int64}
theorem mo_answered {post : Int32 → Int32 → Int32 → Int32 → (Nat → Int32) → (Nat → Int32) → (Nat → Int32) → Prop} {pa at' wa : Int32} {aR aT T A B N Q P : Nat → Int32} {s v m : Nat} (hs1 : 1 ≤ s) (hs : s ≤ 200) (hm : m < 600) (hQ : QR aR aT T N Q) (hv : v ≤ 9) (hav : ansF aR aT T s = nI v)
    (hA : A s = 0 ∨ ∃ y : Nat, 1 ≤ y ∧ y ≤ 200 ∧ A s = nI y) (hB : B s = 0 ∨ ∃ y : Nat, 1 ≤ y ∧ y ≤ 200 ∧ B s = nI y)
    (h0 : ∀ N' Q', QR aR aT (tkF aT T s) N' Q' → v = 0 → B s = 0 → post 0 (waF aT T wa s) (nI m) ra N' Q' P) (h1 : ∀ N' Q', QR aR aT (tkF aT T s) N' Q' → v = 0 → ¬ B s = 0 → post 0 (waF aT T wa s) (nI (m + 1)) ra N' Q' (upd P m (B s)))
    (h2 : ∀ N' Q', QR aR aT (tkF aT T s) N' Q' → 1 ≤ v → ¬ A s = 0 → post 0 (waF aT T wa s) (nI (m + 1)) ra N' Q' (upd P m (A s))) (h3 : ∀ N' Q', QR aR aT (tkF aT T s) N' Q' → 1 ≤ v → v < 5 → A s = 0 → post 0 (waF aT T wa s) (nI m) ra N' Q' P) (h4 : ∀ N' Q', QR aR aT (tkF aT T s) N' Q' → 5 ≤ v → A s = 0 → post 2 (waF aT T wa s) (nI m) (10 + nI v) N' Q' P) :
    wp_Mo_answered post th sn ce no pa wa at' (nI m) be ra ne is' re fa A B N Q P (nI s) := by
  have vs : vp_in (nI s) 201 := vp_in_nI (by omega) (by omega)
  have cs : (nI s).toNatClampNeg = s := nI_clamp (by omega)
  obtain ⟨t, u, e1, e2, e3, e4, e5, e6, e7⟩ := hQ s hs1 hs
  have hcond : 0 < aT s - T s ↔ t < u := by
    rw [e1, e2, pk_sub e3, ← nI_0, nI_ltI (by omega) (by omega)]; omega
  unfold wp_Mo_answered
  rw [cs]
  refine ⟨vs, fun c => ?_, fun c => ?_⟩
  · have htu : ¬ t < u := by
      intro q
      rw [e6] at c
      exact nI_nle (by omega) (by omega) c
    have hc : ¬ 0 < aT s - T s := fun q => htu (hcond.mp q)
    have hv0 : v = 0 := by
      unfold ansF at hav
      rw [if_neg hc, ← nI_0, nI_eq (by omega) (by omega)] at hav
      omega
    subst hv0
    have hT : tkF aT T s = T := by unfold tkF; rw [if_neg hc]
    have hw : waF aT T wa s = wa := by unfold waF; rw [if_neg hc]
    rw [hT, hw] at h0 h1 h2 h3 h4
    rw [show (0 : Int32) = nI 0 from nI_0.symm]
    exact mo_ans86 hs hm (by omega) hA hB (h0 N Q hQ) (h1 N Q hQ) (h2 N Q hQ) (h3 N Q hQ) (h4 N Q hQ)
  · have htu : t < u := by
      rcases Nat.lt_or_ge t u with q | q
      · exact q
      · exfalso
        apply c
        rw [e6, show u - t = 0 by omega, nI_0]; decide
    have hc : 0 < aT s - T s := hcond.mpr htu
    obtain ⟨cnt, hcnt⟩ : ∃ z, u - t = z + 1 := ⟨u - t - 1, by omega⟩
    rw [nI_20s hs1, nI_clamp (show 20 * s - 20 < 2 ^ 31 by omega)]
    refine ⟨vp_in_nI (by omega) (by omega), fun x hx => ⟨vs, vs, ?_⟩⟩
    have hxv : x = nI v := by
      have h7 := (e7 0 (by omega)).1
      rw [Nat.add_zero] at h7
      rw [hx, h7, ← hav]
      unfold ansF
      rw [if_pos hc, e1, nI_clamp (by omega), Nat.add_zero]
    rw [hxv]
    have hw : waF aT T wa s = wa - 1 := by unfold waF; rw [if_pos hc]
    have hNs : (upd N s (N s - 1)) s = nI cnt := by rw [pk_us, e6, hcnt, nI_pred]
    have key : ∀ (j i : Nat) (Qc : Nat → Int32), i + j = cnt → (∀ x, x < i → Qc (20 * s - 20 + x) = Q (20 * s - 20 + (x + 1))) → (∀ x, x < 20 * s - 20 ∨ 20 * s - 20 + i ≤ x → Qc x = Q x) →
        wl_Mo_answered_49 post th sn ce no pa at' be ne is' re fa A B (j + 1) (wa - 1) (nI m) ra (upd N s (N s - 1)) Qc P (nI s) (nI (20 * s - 20)) (nI v) (nI i) := by
      intro j
      induction j with
      | zero =>
        intro i Qc hi q1 q2
        have hi : i = cnt := by omega
        subst hi
        refine ⟨vs, ?_⟩
        rw [cs, hNs]
        refine ⟨fun _ => ?_, fun z => absurd (by rw [nI_leI (by omega) (by omega)]; omega) z⟩
        have hQR := QR_same hQ hs1 hc rfl (e6.trans (by rw [hcnt])) (by omega) q1 q2
        rw [hw] at h0 h1 h2 h3 h4
        exact mo_ans86 hs hm hv hA hB (h0 _ _ hQR) (h1 _ _ hQR) (h2 _ _ hQR) (h3 _ _ hQR) (h4 _ _ hQR)
      | succ j ih =>
        intro i Qc hi q1 q2
        refine ⟨vs, ?_⟩
        rw [cs, hNs, nI_add, nI_1, nI_1, nI_clamp (show 20 * s - 20 + i < 2 ^ 31 by omega), nI_clamp (show 20 * s - 20 + i + 1 < 2 ^ 31 by omega)]
        refine ⟨fun z => absurd z (by rw [nI_leI (by omega) (by omega)]; omega), fun _ => ⟨vp_in_nI (by omega) (by omega), vp_in_nI (by omega) (by omega), ?_⟩⟩
        refine ih (i + 1) _ (by omega) (fun x hx => ?_) (fun x hx => ?_)
        · by_cases hxi : x = i
          · subst hxi
            rw [pk_us, q2 _ (by omega)]
            rfl
          · rw [pk_un (by omega)]
            exact q1 x (by omega)
        · rw [pk_un (by omega)]
          exact q2 x (by omega)
    refine ⟨cnt + 1, ?_⟩
    have := key cnt 0 Q (by omega) (fun x hx => by omega) (fun x _ => rfl)
    rw [nI_0] at this
    exact this
/-- where the reference stands behind a step -/
def outR (o : stOut) (r : List Nat) (p : Nat) (r0 at' hi' : Int32) (P' : Nat → Int32) : Prop :=
  (∃ y : Nat, 1 ≤ y ∧ y ≤ 200 ∧ o.1 = nI y ∧ r0 = 0 ∧ at' = nI p ∧ hi' = nI (r.length + 1) ∧ RStk P' (y :: r)) ∨ (o.1 = 0 ∧ r0 = 0 ∧ at' = nI p ∧ hi' = nI r.length ∧ RStk P' r) ∨
  (o.1 = -1 ∧ r0 = 0 ∧ at' = nI p ∧ hi' = nI (drF r).length ∧ RStk P' (drF r)) ∨ (o.1 = -2 ∧ r0 = 0 ∧ at' = o.2.1 - 1 ∧ hi' = 0) ∨
  (o.1 = -3 ∧ r0 = o.2.2.2.2.2 ∧ at' = nI p ∧ hi' = nI r.length ∧ RStk P' r)
variable {post : Int32 → Int32 → Int32 → Int32 → Int32 → Int64 → Int32 → (Nat → Int64) → (Nat → Int32) → (Nat → Int32) → (Nat → Int32) → (Nat → Int32) → (Nat → Int64) → Prop}
theorem mo_act122 {n : Nat} {K A B Z : Nat → Int32} {V : Nat → Int64} {cells : Nat} (w : WFn n K A B Z cells) {pn : Nat} {S W aR aT T N Q P mT : Nat → Int32} {U : Nat → Int64} {s p : Nat} {r : List Nat} {wa tg : Int32} (hpn : pn ≤ 30) (hp1 : 1 ≤ p) (hp2 : p ≤ pn) (hW : okW cells W)
    (h1 : 1 ≤ s) (h2 : s ≤ n) (hQ : QR aR aT T N Q) (hr : RStk P r) (hSI : SI n K r) (hrl : r.length ≤ 200) {v : Int64} {c : Int32} (hc14 : K s = 14 → c = 0 ∨ ∃ y : Nat, 1 ≤ y ∧ y ≤ 200 ∧ c = nI y)
    (hpost : ∀ r0 at' hi' N' Q' P', outR (actR K A B pn S W V (ansF aR aT T s) tg ra re s p v c) r p r0 at' hi' P' → QR aR aT (if K s = 25 then tkF aT T s else T) N' Q' →
      post r0 (if K s = 25 then waF aT T wa s else wa) at' hi' (actR K A B pn S W V (ansF aR aT T s) tg ra re s p v c).2.2.2.1 (actR K A B pn S W V (ansF aR aT T s) tg ra re s p v c).2.2.2.2.1 0 (actR K A B pn S W V (ansF aR aT T s) tg ra re s p v c).2.2.1 N' Q' P' mT U) :
    wj_Mo_act_122 post th sn ce no (nI pn) be ne is' W K A B S wa (nI p) (nI r.length) ra re 0 V N Q P mT U (nI s) (K s) v c := by
  have hn := w.1
  have hcl := w.2.1
  have ok := w.2.2 s h1 h2
  have vs : vp_in (nI s) 201 := vp_in_nI (by omega) (by omega)
  have cs : (nI s).toNatClampNeg = s := nI_clamp (by omega)
  have thr : ∀ {o : stOut}, o.1 = 0 → outR o r p 0 (nI p) (nI r.length) P := fun h => Or.inr (Or.inl ⟨h, rfl, rfl, rfl, hr⟩)
  have into : ∀ {o : stOut} {y : Nat}, 1 ≤ y → y ≤ 200 → o.1 = nI y → outR o r p 0 (nI p) (nI (r.length + 1)) (upd P r.length (nI y)) := fun hy hy2 h => Or.inl ⟨_, hy, hy2, h, rfl, rfl, rfl, RStk_push hr (by omega)⟩
  unfold wj_Mo_act_122
  refine ⟨fun _ => ?_, fun q => absurd rfl q⟩
  rw [cs]
  unfold actR at hpost
  refine ⟨fun k => ?_, fun k => ?_, fun k => ?_, fun k => ?_, fun k => ?_, fun k => ?_, fun k => ?_, fun k => ?_, fun k => ?_, fun k => ?_, fun k => ?_, fun k => ?_⟩
  · -- 9
    obtain ⟨hA, -⟩ := okN_k (c := 9) ok k (by omega)
    obtain ⟨q, q1, q2⟩ := hA.1 rfl
    obtain ⟨d, d1, d2, d3⟩ := hW q q1
    have cq : (nI q).toNatClampNeg = q := nI_clamp (by omega)
    rw [if_pos k, q2, cq, d3, if_neg (show ¬ K s = 25 by rw [k]; decide), if_neg (show ¬ K s = 25 by rw [k]; decide)] at hpost
    have vq : vp_in (nI q) 40 := vp_in_nI (by omega) (by omega)
    rw [q2, cq, d3]
    exact ⟨vs, vs, vq, mo_cut d2 ⟨vq, hpost _ _ _ _ _ _ (thr rfl) hQ⟩⟩
  · -- 11
    obtain ⟨-, hB, -⟩ := okN_k (c := 11) ok k (by omega)
    obtain ⟨y, y1, y2, y3, -⟩ := hB.2.2.1 rfl
    rw [if_neg (show ¬ K s = 9 by rw [k]; decide), if_pos k, if_neg (show ¬ K s = 25 by rw [k]; decide), if_neg (show ¬ K s = 25 by rw [k]; decide)] at hpost
    rw [lg_cmp_eq]
    refine ⟨fun q => ?_, fun q => ⟨vs, ?_⟩⟩
    · rw [if_pos q] at hpost; exact hpost _ _ _ _ _ _ (thr rfl) hQ
    · rw [if_neg q, y3] at hpost
      rw [y3]
      exact mo_push (by omega) (hpost _ _ _ _ _ _ (into y1 (by omega) rfl) hQ)
  · -- 12
    obtain ⟨-, hB, -⟩ := okN_k (c := 12) ok k (by omega)
    obtain ⟨b, b1, b2, b3, b4⟩ := hB.2.2.2.1 rfl
    have b4 : K b = 13 := by simpa using b4
    obtain ⟨hA2, hB2, -⟩ := okN_k (c := 13) (w.2.2 b b1 (by omega)) b4 (by omega)
    obtain ⟨y, y1, y2, y3, -⟩ := hA2.2.2.1 rfl
    obtain ⟨z, z1, z2, z3, -⟩ := hB2.2.2.1 rfl
    have cb : (nI b).toNatClampNeg = b := nI_clamp (by omega)
    have vb : vp_in (nI b) 201 := vp_in_nI (by omega) (by omega)
    rw [if_neg (show ¬ K s = 9 by rw [k]; decide), if_neg (show ¬ K s = 11 by rw [k]; decide), if_pos k, if_neg (show ¬ K s = 25 by rw [k]; decide), if_neg (show ¬ K s = 25 by rw [k]; decide), b3, cb, y3, z3] at hpost
    rw [lg_cmp_eq, b3, cb, y3, z3]
    refine ⟨fun q => ⟨vs, vb, ?_⟩, fun q => ⟨vs, vb, ?_⟩⟩
    · rw [if_pos q] at hpost
      exact mo_push (by omega) (hpost _ _ _ _ _ _ (into z1 (by omega) rfl) hQ)
    · rw [if_neg q] at hpost
      exact mo_push (by omega) (hpost _ _ _ _ _ _ (into y1 (by omega) rfl) hQ)
  · -- 14
    rw [if_neg (show ¬ K s = 9 by rw [k]; decide), if_neg (show ¬ K s = 11 by rw [k]; decide), if_neg (show ¬ K s = 12 by rw [k]; decide), if_pos k, if_neg (show ¬ K s = 25 by rw [k]; decide), if_neg (show ¬ K s = 25 by rw [k]; decide)] at hpost
    rcases hc14 k with rfl | ⟨y, y1, y2, rfl⟩
    · exact ⟨fun _ => hpost _ _ _ _ _ _ (thr rfl) hQ, fun q => absurd (by decide) q⟩
    · exact ⟨fun q => absurd q (nI_nle (by omega) (by omega)), fun _ => mo_push (by omega) (hpost _ _ _ _ _ _ (into y1 (by omega) rfl) hQ)⟩
  · -- 17
    obtain ⟨-, -, hq, -⟩ := okN_k (c := 17) ok k (by omega)
    obtain ⟨q, q1, q2, q3⟩ := hq (Or.inl rfl)
    rw [if_neg (show ¬ K s = 9 by rw [k]; decide), if_neg (show ¬ K s = 11 by rw [k]; decide), if_neg (show ¬ K s = 12 by rw [k]; decide), if_neg (show ¬ K s = 14 by rw [k]; decide), if_pos k, if_neg (show ¬ K s = 25 by rw [k]; decide), if_neg (show ¬ K s = 25 by rw [k]; decide), q3, nI_clamp (show q < 2 ^ 31 by omega), goR_rest] at hpost
    rw [q3, nI_l (by omega)]
    refine ⟨vs, mo_goTo hpn (by omega) (fun g1 g2 => hpost _ _ _ _ _ _ ?_ hQ) (fun g => hpost _ _ _ _ _ _ (thr ?_) hQ)⟩
    · unfold goR
      rw [if_pos ⟨g1, g2⟩]
      refine Or.inr (Or.inr (Or.inr (Or.inl ⟨rfl, rfl, ?_, rfl⟩)))
      obtain ⟨z, rfl⟩ : ∃ z, q = z + 1 := ⟨q - 1, by omega⟩
      show nI (z + 1 - 1) = nI (z + 1) - 1
      rw [nI_pred, Nat.add_sub_cancel]
    · unfold goR; rw [if_neg g]
  · -- 18
    obtain ⟨-, -, hq, -⟩ := okN_k (c := 18) ok k (by omega)
    obtain ⟨q, q1, q2, q3⟩ := hq (Or.inr rfl)
    rw [if_neg (show ¬ K s = 9 by rw [k]; decide), if_neg (show ¬ K s = 11 by rw [k]; decide), if_neg (show ¬ K s = 12 by rw [k]; decide), if_neg (show ¬ K s = 14 by rw [k]; decide), if_neg (show ¬ K s = 17 by rw [k]; decide), if_pos k, if_neg (show ¬ K s = 25 by rw [k]; decide), if_neg (show ¬ K s = 25 by rw [k]; decide), q3, nI_clamp (show q < 2 ^ 31 by omega)] at hpost
    rw [lg_cmp_lt, lg_cmp_gt, q3]
    refine ⟨fun c1 => ?_, fun c1 => ⟨fun c2 => ?_, fun c2 => ⟨vs, ?_⟩⟩⟩
    · rw [if_neg (fun h => absurd c1 (Int64.not_lt.mpr h.1))] at hpost; exact hpost _ _ _ _ _ _ (thr rfl) hQ
    · rw [if_neg (fun h => absurd c2 (Int64.not_lt.mpr h.2))] at hpost; exact hpost _ _ _ _ _ _ (thr rfl) hQ
    · have g1 := Int64.not_lt.mp c1
      have g2 := Int64.not_lt.mp c2
      rw [if_pos ⟨g1, g2⟩, goR_rest] at hpost
      obtain ⟨z, z1, z2, z3, z4⟩ := l_small g1 g2
      rw [z4] at hpost
      rw [z3]
      obtain ⟨q', rfl⟩ : ∃ x, q = x + 1 := ⟨q - 1, by omega⟩
      rw [Nat.add_sub_cancel] at hpost
      rw [nI_pred, nI_l (by omega), lN_add]
      refine mo_goTo hpn (by omega) (fun f1 f2 => hpost _ _ _ _ _ _ ?_ hQ) (fun g => hpost _ _ _ _ _ _ (thr ?_) hQ)
      · unfold goR
        rw [if_pos ⟨f1, f2⟩]
        refine Or.inr (Or.inr (Or.inr (Or.inl ⟨rfl, rfl, ?_, rfl⟩)))
        obtain ⟨x, hx⟩ : ∃ x, q' + z = x + 1 := ⟨q' + z - 1, by omega⟩
        rw [hx]
        show nI (x + 1 - 1) = nI (x + 1) - 1
        rw [nI_pred, Nat.add_sub_cancel]
      · unfold goR; rw [if_neg g]
  · -- 19
    obtain ⟨-, -, -, hA⟩ := okN_k (c := 19) ok k (by omega)
    rw [if_neg (show ¬ K s = 9 by rw [k]; decide), if_neg (show ¬ K s = 11 by rw [k]; decide), if_neg (show ¬ K s = 12 by rw [k]; decide), if_neg (show ¬ K s = 14 by rw [k]; decide), if_neg (show ¬ K s = 17 by rw [k]; decide), if_neg (show ¬ K s = 18 by rw [k]; decide), if_pos k, if_neg (show ¬ K s = 25 by rw [k]; decide), if_neg (show ¬ K s = 25 by rw [k]; decide)] at hpost
    refine mo_sect hpn (by omega) (hA rfl) hp1 hp2 (hpost _ _ _ _ _ _ ?_ hQ)
    exact Or.inr (Or.inr (Or.inr (Or.inl ⟨rfl, rfl, by dsimp only; rw [nI_pred], rfl⟩)))
  · -- 21
    rw [if_neg (show ¬ K s = 9 by rw [k]; decide), if_neg (show ¬ K s = 11 by rw [k]; decide), if_neg (show ¬ K s = 12 by rw [k]; decide), if_neg (show ¬ K s = 14 by rw [k]; decide), if_neg (show ¬ K s = 17 by rw [k]; decide), if_neg (show ¬ K s = 18 by rw [k]; decide), if_neg (show ¬ K s = 19 by rw [k]; decide), if_pos k, if_neg (show ¬ K s = 25 by rw [k]; decide), if_neg (show ¬ K s = 25 by rw [k]; decide)] at hpost
    exact mo_drop hn hr hSI (hpost _ _ _ _ _ _ (Or.inr (Or.inr (Or.inl ⟨rfl, rfl, rfl, rfl, RStk_dr hr⟩))) hQ)
  · -- 23
    rw [if_neg (show ¬ K s = 9 by rw [k]; decide), if_neg (show ¬ K s = 11 by rw [k]; decide), if_neg (show ¬ K s = 12 by rw [k]; decide), if_neg (show ¬ K s = 14 by rw [k]; decide), if_neg (show ¬ K s = 17 by rw [k]; decide), if_neg (show ¬ K s = 18 by rw [k]; decide), if_neg (show ¬ K s = 19 by rw [k]; decide), if_neg (show ¬ K s = 21 by rw [k]; decide), if_pos (Or.inl k), if_neg (show ¬ K s = 25 by rw [k]; decide), if_neg (show ¬ K s = 25 by rw [k]; decide)] at hpost
    exact hpost _ _ _ _ _ _ (Or.inr (Or.inr (Or.inr (Or.inr ⟨rfl, rfl, rfl, rfl, hr⟩)))) hQ
  · -- 24
    rw [if_neg (show ¬ K s = 9 by rw [k]; decide), if_neg (show ¬ K s = 11 by rw [k]; decide), if_neg (show ¬ K s = 12 by rw [k]; decide), if_neg (show ¬ K s = 14 by rw [k]; decide), if_neg (show ¬ K s = 17 by rw [k]; decide), if_neg (show ¬ K s = 18 by rw [k]; decide), if_neg (show ¬ K s = 19 by rw [k]; decide), if_neg (show ¬ K s = 21 by rw [k]; decide), if_pos (Or.inr k), if_neg (show ¬ K s = 25 by rw [k]; decide), if_neg (show ¬ K s = 25 by rw [k]; decide)] at hpost
    exact hpost _ _ _ _ _ _ (Or.inr (Or.inr (Or.inr (Or.inr ⟨rfl, rfl, rfl, rfl, hr⟩)))) hQ
  · -- 25
    obtain ⟨hA, hB, -⟩ := okN_k (c := 25) ok k (by omega)
    obtain ⟨a, a1, a2⟩ := ans_small (hQ s h1 (by omega))
    rw [if_neg (show ¬ K s = 9 by rw [k]; decide), if_neg (show ¬ K s = 11 by rw [k]; decide), if_neg (show ¬ K s = 12 by rw [k]; decide), if_neg (show ¬ K s = 14 by rw [k]; decide), if_neg (show ¬ K s = 17 by rw [k]; decide), if_neg (show ¬ K s = 18 by rw [k]; decide), if_neg (show ¬ K s = 19 by rw [k]; decide), if_neg (show ¬ K s = 21 by rw [k]; decide), if_neg (show ¬ (K s = 23 ∨ K s = 24) by rw [k]; decide), if_pos k, if_pos k, if_pos k, a2] at hpost
    have hA' : A s = 0 ∨ ∃ y : Nat, 1 ≤ y ∧ y ≤ 200 ∧ A s = nI y := (hA.2.2.2.2.2.2.2.2 rfl).imp id (fun ⟨y, y1, y2, y3, _⟩ => ⟨y, y1, by omega, y3⟩)
    have hB' : B s = 0 ∨ ∃ y : Nat, 1 ≤ y ∧ y ≤ 200 ∧ B s = nI y := (hB.2.2.2.2.2.2.2.2 rfl).imp id (fun ⟨y, y1, y2, y3, _⟩ => ⟨y, y1, by omega, y3⟩)
    refine mo_answered (v := a) h1 (by omega) (by omega) hQ a1 a2 hA' hB' (fun N' Q' hq z b => ?_) (fun N' Q' hq z b => ?_) (fun N' Q' hq z b => ?_) (fun N' Q' hq z z5 b => ?_) (fun N' Q' hq z b => ?_)
    · subst z
      rw [if_pos nI_0] at hpost
      exact hpost _ _ _ _ _ _ (thr b) hq
    · subst z
      rw [if_pos nI_0] at hpost
      obtain ⟨y, y1, y2, y3⟩ := hB'.resolve_left b
      rw [y3] at hpost ⊢
      exact hpost _ _ _ _ _ _ (into y1 (by omega) rfl) hq
    · rw [if_neg (nI_ne0 z (by omega)), if_pos b] at hpost
      obtain ⟨y, y1, y2, y3⟩ := hA'.resolve_left b
      rw [y3] at hpost ⊢
      exact hpost _ _ _ _ _ _ (into y1 (by omega) rfl) hq
    · rw [if_neg (nI_ne0 z (by omega)), if_neg (not_not_intro b), if_pos (by rw [show (5 : Int32) = nI 5 from rfl, nI_ltI (by omega) (by omega)]; exact z5)] at hpost
      exact hpost _ _ _ _ _ _ (thr rfl) hq
    · rw [if_neg (nI_ne0 (by omega) (by omega)), if_neg (not_not_intro b), if_neg (by rw [show (5 : Int32) = nI 5 from rfl, nI_ltI (by omega) (by omega)]; omega)] at hpost
      exact hpost _ _ _ _ _ _ (Or.inr (Or.inr (Or.inr (Or.inr ⟨rfl, rfl, rfl, rfl, hr⟩)))) hq
  · obtain ⟨k9, k11, k12, k14, k17, k18, k19, k21, k23, k24, k25⟩ := k
    rw [if_neg k9, if_neg k11, if_neg k12, if_neg k14, if_neg k17, if_neg k18, if_neg k19, if_neg k21, if_neg (fun h => h.elim k23 k24), if_neg k25, if_neg k25, if_neg k25] at hpost
    exact hpost _ _ _ _ _ _ (thr rfl) hQ
end RT
def E3 (o : stOut) : Prop := o.2.2.2.2.2 = 3 ∨ o.2.2.2.2.2 = 1 ∨ o.2.2.2.2.2 = 2
theorem ite_E {c : Prop} [Decidable c] {a b : stOut} (ha : E3 a) (hb : E3 b) : E3 (if c then a else b) := by
  by_cases h : c
  · rw [if_pos h]; exact ha
  · rw [if_neg h]; exact hb
theorem stepR_en {K A B : Nat → Int32} {V : Nat → Int64} {pn s p : Nat} {S W : Nat → Int32} {ans tg ra : Int32} {re : Int64} : E3 (stepR K A B pn S W V ans tg ra re s p) := by
  have e3 : ∀ (a b : Int32) (v : Nat → Int64) (x : Int32) (y : Int64), E3 (a, b, v, x, y, 3) := fun _ _ _ _ _ => Or.inl rfl
  have eg : ∀ q, E3 (goR pn V tg ra re q) := fun q => by unfold goR; exact ite_E (e3 _ _ _ _ _) (e3 _ _ _ _ _)
  unfold stepR
  cases hv : valS K A B V s with
  | none => exact Or.inr (Or.inr rfl)
  | some vc =>
    obtain ⟨v, c⟩ := vc
    show E3 (actR K A B pn S W V ans tg ra re s p v c)
    unfold actR
    exact ite_E (e3 _ _ _ _ _) (ite_E (e3 _ _ _ _ _) (ite_E (e3 _ _ _ _ _) (ite_E (e3 _ _ _ _ _) (ite_E (eg _) (ite_E (ite_E (eg _) (e3 _ _ _ _ _)) (ite_E (e3 _ _ _ _ _) (ite_E (e3 _ _ _ _ _) (ite_E (Or.inr (Or.inl rfl)) (ite_E (ite_E (e3 _ _ _ _ _) (ite_E (e3 _ _ _ _ _) (ite_E (e3 _ _ _ _ _) (Or.inr (Or.inr rfl))))) (e3 _ _ _ _ _))))))))))
