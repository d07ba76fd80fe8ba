-- ===== small methods of the reference =====
theorem tTN_s : ∀ k : Nat, k < 18 → tTN (k + 1) = tTN k * 10 := by
  intro k h
  rcases (show k = 0 ∨ k = 1 ∨ k = 2 ∨ k = 3 ∨ k = 4 ∨ k = 5 ∨ k = 6 ∨ k = 7 ∨ k = 8 ∨ k = 9 ∨ k = 10 ∨ k = 11 ∨ k = 12 ∨ k = 13 ∨ k = 14 ∨ k = 15 ∨ k = 16 ∨ k = 17 by omega) with rfl | rfl | rfl | rfl | rfl | rfl | rfl | rfl | rfl | rfl | rfl | rfl | rfl | rfl | rfl | rfl | rfl | rfl <;> decide
theorem mo_cut {post : Int64 → Prop} {d : Nat} {v : Int64} (h : d ≤ 18) (hp : post (cutV (nI d) v)) : wp_Mo_cut post (nI d) v := by
  have key : ∀ (j k : Nat), k + j = d → wl_Mo_cut_5 post (j + 1) (nI d) v (tTN k) (nI k) := by
    intro j
    induction j with
    | zero =>
      intro k hk
      have hk : k = d := by omega
      subst hk
      refine ⟨fun _ => ⟨(tTN_pos k h).2, ?_⟩, fun c => absurd ?_ c⟩
      · unfold cutV at hp
        rw [nI_clamp (by omega)] at hp
        exact hp
      · rw [nI_leI (by omega) (by omega)]; omega
    | succ j ih =>
      intro k hk
      refine ⟨fun c => absurd c ?_, fun _ => ?_⟩
      · rw [nI_leI (by omega) (by omega)]; omega
      · rw [← tTN_s k (by omega), nI_1]
        exact ih (k + 1) (by omega)
  exact ⟨d + 1, key d 0 (by omega)⟩
/-- the reference's pile: a mark where the class has 0 -/
def RStk (mP : Nat → Int32) : List Nat → Prop
  | [] => True
  | x :: r => (if x = 0 then mP r.length < 0 else mP r.length = nI x) ∧ RStk mP r
theorem RStk_upd {mP : Nat → Int32} {y : Int32} : ∀ {l : List Nat} {k : Nat}, RStk mP l → l.length ≤ k → RStk (upd mP k y) l := by
  intro l
  induction l with
  | nil => intro k _ _; trivial
  | cons x r ih =>
    intro k h hk
    simp only [List.length_cons] at hk
    refine ⟨?_, ih h.2 (by omega)⟩
    rw [pk_un (by omega)]
    exact h.1
theorem RStk_push {mP : Nat → Int32} {l : List Nat} {x : Nat} (h : RStk mP l) (hx : ¬ x = 0) : RStk (upd mP l.length (nI x)) (x :: l) := ⟨by rw [if_neg hx, pk_us], RStk_upd h (Nat.le_refl _)⟩
theorem RStk_dr {mP : Nat → Int32} {l : List Nat} (h : RStk mP l) : RStk mP (drF l) := by
  induction l with
  | nil => trivial
  | cons x r ih =>
    simp only [drF]
    by_cases c : x = 0
    · rw [if_pos c]; exact h.2
    · rw [if_neg c]; exact ih h.2
section RA
variable {th : Int32} {sn : Int64} {ce no wa be ra ne is' fa : Int32} {re : Int64}
theorem mo_push {post : Int32 → (Nat → Int32) → Prop} {pa at' x : Int32} {m : Nat} {mP : Nat → Int32} (hm : m < 640) (hp : post (nI (m + 1)) (upd mP m x)) : wp_Mo_push post th sn ce no pa wa at' (nI m) be ra ne is' re fa mP x := by
  unfold wp_Mo_push
  rw [nI_1, nI_clamp (by omega)]
  exact ⟨vp_in_nI hm (by omega), hp⟩
theorem mo_goTo {post : Int32 → Int32 → Prop} {at' hi : Int32} {pn q : Nat} (hpn : pn ≤ 30) (hq : q < 2 ^ 30) (h1 : 1 ≤ q → q ≤ pn → post (nI (q - 1)) 0) (h2 : ¬ (1 ≤ q ∧ q ≤ pn) → post at' hi) : wp_Mo_goTo post th sn ce no (nI pn) wa at' hi be ra ne is' re fa (lN q) := by
  unfold wp_Mo_goTo
  rw [lg_cmp_lt, lg_cmp_le, nI_l (by omega), show (1 : Int64) = lN 1 from rfl, lN_lt (by omega) (by omega), lN_le (by omega) (by omega), lN_i]
  refine ⟨fun c => h2 (by omega), fun c => ⟨fun c2 => ?_, fun c2 => h2 (by omega)⟩⟩
  have := h1 (by omega) c2
  obtain ⟨r, rfl⟩ : ∃ r, q = r + 1 := ⟨q - 1, by omega⟩
  rw [nI_pred]
  exact this
variable {post : Int32 → Int32 → Int32 → Int32 → Int32 → Int64 → Int32 → (Nat → Int64) → (Nat → Int32) → (Nat → Int32) → (Nat → Int32) → (Nat → Int32) → (Nat → Int64) → Prop}
variable {D K A B S N Q P T : Nat → Int32} {V U : Nat → Int64} {hi : Int32}
/-- leaving a section, or the paragraph -/
theorem mo_sect {pn : Nat} (hpn : pn ≤ 30) {s : Nat} (hs : s ≤ 200) (hA : A s = 0 ∨ A s = 1) {p : Nat} (hp1 : 1 ≤ p) (hp : p ≤ pn) (h : post 0 wa (nI (if A s = 0 then p else lsF S pn 31 p)) 0 ra re fa V N Q P T U) :
    ∃ k, wl_Mo_act_366 post th sn ce no (nI pn) be ne is' D K A B S k wa (nI p) hi ra re fa V N Q P T U (nI s) := by
  have vs : vp_in (nI s) 201 := vp_in_nI (by omega) (by omega)
  have cs : (nI s).toNatClampNeg = s := nI_clamp (by omega)
  rcases hA with hA | hA
  · rw [if_pos hA] at h
    refine ⟨1, vs, ?_⟩
    rw [cs]
    exact ⟨fun _ => h, fun c => absurd (hA.symm.trans c) (by decide)⟩
  · rw [if_neg (by rw [hA]; decide)] at h
    have key : ∀ (d q : Nat), 1 ≤ q → q ≤ pn → pn < q + d → post 0 wa (nI (lsF S pn d q)) 0 ra re fa V N Q P T U → wl_Mo_act_366 post th sn ce no (nI pn) be ne is' D K A B S d wa (nI q) hi ra re fa V N Q P T U (nI s) := by
      intro d
      induction d with
      | zero => intro q _ _ h; omega
      | succ d ih =>
        intro q q1 q2 hd hpo
        simp only [lsF] at hpo
        refine ⟨vs, ?_⟩
        rw [cs]
        refine ⟨fun c => absurd hA c, fun _ => ⟨fun c => ?_, fun c => ?_⟩⟩
        · rw [nI_leI (by omega) (by omega)] at c
          rwa [if_neg (by omega)] at hpo
        · rw [nI_leI (by omega) (by omega)] at c
          rw [nI_1, nI_clamp (show q + 1 < 2 ^ 31 by omega), nI_clamp (show q < 2 ^ 31 by omega)]
          refine ⟨vp_in_nI (by omega) (by omega), vp_in_nI (by omega) (by omega), fun c2 => ?_, fun c2 => ?_⟩
          · rwa [if_neg (fun h => c2 h.2)] at hpo
          · rw [if_pos ⟨by omega, c2⟩] at hpo
            exact ih (q + 1) (by omega) (by omega) (by omega) hpo
    exact ⟨31, key 31 p hp1 hp (by omega) h⟩
/-- the next sentence -/
theorem mo_drop {n : Nat} (hn : n ≤ 200) {K' : Nat → Int32} {pa at' : Int32} {l : List Nat} (hl : RStk P l) (hS : SI n K' l) (h : post 0 wa at' (nI (drF l).length) ra re fa V N Q P T U) :
    ∃ k, wl_Mo_act_430 post th sn ce no pa be ne is' D K A B S k wa at' (nI l.length) ra re fa V N Q P T U := by
  induction l with
  | nil =>
    refine ⟨1, fun _ => ?_, fun c => absurd (by simp only [List.length_nil]; rw [nI_0]; decide) c⟩
    simp only [List.length_nil, drF] at h ⊢
    unfold wj_Mo_act_464
    refine ⟨fun _ => ?_, fun c => absurd (by rw [nI_0]; decide) c⟩
    rw [nI_0] at h ⊢
    exact h
  | cons x r ih =>
    obtain ⟨h1, h2⟩ := hl
    obtain ⟨g1, g2, g3, g4⟩ := hS
    simp only [drF] at h
    simp only [List.length_cons]
    have e1 : ¬ nI (r.length + 1) ≤ 0 := nI_nle (by omega) (by omega)
    have hv : vp_in (nI r.length) 640 := vp_in_nI (by omega) (by omega)
    have hc : (nI r.length).toNatClampNeg = r.length := nI_clamp (by omega)
    by_cases c : x = 0
    · rw [if_pos c] at h h1
      refine ⟨1, fun q => absurd q e1, fun _ => ?_⟩
      rw [nI_pred, hc]
      refine ⟨hv, fun _ => ?_, fun q => absurd (Int32.le_of_lt h1) q⟩
      unfold wj_Mo_act_464
      refine ⟨fun q => absurd q e1, fun _ => ?_⟩
      rw [nI_pred]
      exact h
    · rw [if_neg c] at h h1
      obtain ⟨k, hk⟩ := ih h2 g4 h
      obtain ⟨x1, x2, -⟩ := g1.resolve_left c
      refine ⟨k + 1, fun q => absurd q e1, fun _ => ?_⟩
      rw [nI_pred, hc]
      refine ⟨hv, fun q => absurd q ?_, fun _ => hk⟩
      rw [h1]
      exact nI_nle (by omega) (by omega)
end RA
-- ===== answers: the class's ring and the reference's rows =====
def QRs (aR aT T mN mQ : Nat → Int32) (s : Nat) : Prop := ∃ t u : Nat, T s = nI t ∧ aT s = nI u ∧ t ≤ u ∧ u - t ≤ 20 ∧ u ≤ 1000000 ∧ mN s = nI (u - t) ∧ ∀ j : Nat, j < u - t → mQ (20 * s - 20 + j) = aR (20 * s + (t + j) % 20) ∧ ∃ v : Nat, v ≤ 9 ∧ aR (20 * s + (t + j) % 20) = nI v
def QR (aR aT T mN mQ : Nat → Int32) : Prop := ∀ s : Nat, 1 ≤ s → s ≤ 200 → QRs aR aT T mN mQ s
theorem ans_small {aR aT T mN mQ : Nat → Int32} {s : Nat} (h : QRs aR aT T mN mQ s) : ∃ v : Nat, v ≤ 9 ∧ ansF aR aT T s = nI v := by
  obtain ⟨t, u, e1, e2, e3, e4, e5, e6, e7⟩ := h
  unfold ansF
  by_cases c : 0 < aT s - T s
  · rw [if_pos c]
    rw [e1, e2, pk_sub e3, ← nI_0, nI_ltI (by omega) (by omega)] at c
    rw [e1, nI_clamp (by omega)]
    obtain ⟨-, v, v1, v2⟩ := e7 0 c
    exact ⟨v, v1, v2⟩
  · rw [if_neg c]; exact ⟨0, by omega, nI_0.symm⟩
section RQ
variable {th : Int32} {sn : Int64} {ce no be ra ne is' fa : Int32} {re : Int64}
variable {post : Int32 → Int32 → Int32 → Int32 → (Nat → Int32) → (Nat → Int32) → (Nat → Int32) → Prop}
/-- what the reference does with an answer -/
theorem mo_ans86 {pa at' wa : Int32} {A B N Q P : Nat → Int32} {s v m : Nat} (hs : s ≤ 200) (hm : m < 600) (hv : v ≤ 9) (hA : A s = 0 ∨ ∃ y : Nat, 1 ≤ y ∧ y ≤ 200 ∧ A s = nI y) (hB : B s = 0 ∨ ∃ y : Nat, 1 ≤ y ∧ y ≤ 200 ∧ B s = nI y)
    (h0 : v = 0 → B s = 0 → post 0 wa (nI m) ra N Q P) (h1 : v = 0 → ¬ B s = 0 → post 0 wa (nI (m + 1)) ra N Q (upd P m (B s)))
    (h2 : 1 ≤ v → ¬ A s = 0 → post 0 wa (nI (m + 1)) ra N Q (upd P m (A s))) (h3 : 1 ≤ v → v < 5 → A s = 0 → post 0 wa (nI m) ra N Q P) (h4 : 5 ≤ v → A s = 0 → post 2 wa (nI m) (10 + nI v) N Q P) :
    wj_Mo_answered_86 post th sn ce no pa at' be ne is' re fa A B wa (nI m) ra N Q P (nI s) (nI v) := by
  have vs : vp_in (nI s) 201 := vp_in_nI (by omega) (by omega)
  have cs : (nI s).toNatClampNeg = s := nI_clamp (by omega)
  have c4 : ∀ {w : Nat}, w ≤ 9 → (nI w ≤ 4 ↔ w ≤ 4) := fun {w} hw => by rw [show (4 : Int32) = nI 4 from rfl, nI_leI (by omega) (by omega)]
  unfold wj_Mo_answered_86
  rw [cs]
  refine ⟨fun c => ?_, fun c => ⟨vs, fun c2 => ?_, fun c2 => ⟨vs, mo_push (by omega) ?_⟩⟩⟩
  · have hv1 : 1 ≤ v := by
      rcases Nat.eq_zero_or_pos v with q | q
      · subst q; exact absurd nI_0 c
      · exact q
    unfold wj_Mo_answered_109
    rw [cs]
    refine ⟨fun q => absurd q (nI_nle (by omega) (by omega)), fun _ => ⟨vs, fun c2 => ?_, fun c2 => ⟨vs, mo_push (by omega) ?_⟩⟩⟩
    · have hz : A s = 0 := by
        rcases hA with q | ⟨y, y1, y2, y3⟩
        · exact q
        · rw [y3] at c2; exact absurd c2 (nI_nle (by omega) (by omega))
      unfold wj_Mo_answered_132
      rw [cs, c4 hv]
      refine ⟨fun q => h3 hv1 (by omega) hz, fun q => ⟨vs, fun z => absurd hz z, fun _ => ?_⟩⟩
      exact h4 (by omega) hz
    · have hz : ¬ A s = 0 := by intro q; rw [q] at c2; exact c2 (by decide)
      unfold wj_Mo_answered_132
      rw [cs]
      exact ⟨fun _ => h2 hv1 hz, fun _ => ⟨vs, fun _ => h2 hv1 hz, fun z => absurd z hz⟩⟩
  · have hv0 : v = 0 := by
      rcases Nat.eq_zero_or_pos v with q | q
      · exact q
      · exact absurd c (nI_ne0 q (by omega))
    subst hv0
    have hz : B s = 0 := by
      rcases hB with q | ⟨y, y1, y2, y3⟩
      · exact q
      · rw [y3] at c2; exact absurd c2 (nI_nle (by omega) (by omega))
    unfold wj_Mo_answered_109
    refine ⟨fun _ => ?_, fun q => absurd (by rw [nI_0]; decide) q⟩
    unfold wj_Mo_answered_132
    exact ⟨fun _ => h0 rfl hz, fun q => absurd (by rw [nI_0]; decide) q⟩
  · have hv0 : v = 0 := by
      rcases Nat.eq_zero_or_pos v with q | q
      · exact q
      · exact absurd c (nI_ne0 q (by omega))
    subst hv0
    have hz : ¬ B s = 0 := by intro q; rw [q] at c2; exact c2 (by decide)
    unfold wj_Mo_answered_109
    refine ⟨fun _ => ?_, fun q => absurd (by rw [nI_0]; decide) q⟩
    unfold wj_Mo_answered_132
    exact ⟨fun _ => h1 rfl hz, fun q => absurd (by rw [nI_0]; decide) q⟩
end RQ
