-- ===== which WHEN fits =====
theorem okN_k {K A B Z : Nat → Int32} {cells i c : Nat} (h : okN K A B Z cells i) (hc : K i = nI c) (hc2 : c ≤ 25) : needP (tNA c) K cells i (A i) ∧ needP (tNB c) K cells i (B i) ∧ (c = 17 ∨ c = 18 → ∃ q : Nat, 1 ≤ q ∧ q ≤ 30 ∧ A i = nI q) ∧ (c = 19 → A i = 0 ∨ A i = 1) := by
  obtain ⟨k, hk, hK, hA, hB, h1, h2, -⟩ := h
  have e := hc.symm.trans hK
  rw [nI_eq (by omega) (by omega)] at e
  subst e
  exact ⟨hA, hB, h1, h2⟩
theorem z_of {n : Nat} {K A B Z : Nat → Int32} {cells : Nat} (w : WFn n K A B Z cells) {i : Nat} (h1 : 1 ≤ i) (h2 : i ≤ n) : ∃ z : Nat, Z i = nI z ∧ 1 ≤ z ∧ z ≤ 100 := by
  obtain ⟨k, -, -, -, -, -, -, z, e1, e2, e3, -⟩ := w.2.2 i h1 h2
  exact ⟨z, e1, e2, e3⟩
/-- reckon from the top -/
theorem wp_reckon0 {n : Nat} {K A B Z : Nat → Int32} {V : Nat → Int64} {cells : Nat} (w : WFn n K A B Z cells) {tg : Int32} {i : Nat} {dz : Int32} {post : Int64 → Int32 → Prop} (h1 : 1 ≤ i) (h2 : i ≤ n) (hv : isV (K i) = true)
    (hs : ∀ v, EV K A B V i = some v → post v dz) (hn : EV K A B V i = none → ∀ v, post v 1) : wp_Sp_reckon 102 post (nI n) K A B (nI cells) V dz tg (nI i) 0 := by
  obtain ⟨z, e1, e2, e3⟩ := z_of w h1 h2
  exact wp_reckon w 102 i 0 z dz post h1 h2 hv e1 (by omega) (by omega) (by omega) hs hn
def fitO (K A B : Nat → Int32) (V : Nat → Int64) (x : Nat) (v : Int64) : Option Bool :=
  if K x = 8 then (EV K A B V (A x).toNatClampNeg).bind fun lo => (EV K A B V (B x).toNatClampNeg).bind fun hi => some (decide (lo ≤ v) && decide (v ≤ hi))
  else (EV K A B V x).bind fun y => some (decide (y = v))
def fitC (K : Nat → Int32) (x : Nat) : Prop := isV (K x) = true ∨ K x = 8
theorem range_cases {K A B Z : Nat → Int32} {cells i : Nat} (h : okN K A B Z cells i) (hk : K i = 8) : (∃ a b : Nat, A i = nI a ∧ B i = nI b ∧ 1 ≤ a ∧ a < i ∧ 1 ≤ b ∧ b < i ∧ isV (K a) = true ∧ isV (K b) = true) := by
  obtain ⟨hA, hB, -⟩ := okN_k (c := 8) h hk (by omega)
  obtain ⟨a, ha1, ha2, ha3, ha4⟩ := hA.2.1 rfl
  obtain ⟨b, hb1, hb2, hb3, hb4⟩ := hB.2.1 rfl
  exact ⟨a, b, ha3, hb3, ha1, ha2, hb1, hb2, ha4, hb4⟩
theorem isV_ne8 {k : Int32} (h : isV k = true) : ¬ k = 8 := by
  rintro rfl
  exact absurd h (by decide)
theorem isV_n1 {k : Int32} (h : isV k = true) : ¬ k = -1 := by
  rintro rfl
  exact absurd h (by decide)
theorem wp_fits {n : Nat} {K A B Z : Nat → Int32} {V : Nat → Int64} {cells : Nat} (w : WFn n K A B Z cells) {tg dz : Int32} {x : Nat} {v : Int64} {post : Int32 → Int32 → Prop} (h1 : 1 ≤ x) (h2 : x ≤ n) (hx : fitC K x)
    (hs : ∀ b, fitO K A B V x v = some b → post (if b then 1 else 0) dz) (hnn : fitO K A B V x v = none → ∀ r, post r 1) : wp_Sp_fits post (nI n) K A B (nI cells) V dz tg (nI x) v := by
  have hn := w.1
  unfold wp_Sp_fits
  refine ⟨fun _ => wp_kindOf hn ?_, fun c => absurd c (nI_ne0 h1 (by omega))⟩
  rw [kx_in h1 h2 hn]
  refine ⟨fun c => ?_, fun c => ?_⟩
  · obtain ⟨a, b, hA, hB, ha1, ha2, hb1, hb2, hva, hvb⟩ := range_cases (w.2.2 x h1 h2) c
    unfold fitO at hs hnn
    rw [if_pos c, hA, hB, nI_clamp (by omega), nI_clamp (by omega)] at hs hnn
    refine wp_aOf hn ?_
    rw [ax_in h1 h2 hn, hA]
    refine wp_reckon0 w ha1 (by omega) hva (fun lo hlo => ?_) (fun hlo lo => ?_)
    · rw [hlo] at hs hnn
      refine wp_bOf hn ?_
      rw [ax_in h1 h2 hn, hB]
      refine wp_reckon0 w hb1 (by omega) hvb (fun hi hhi => ?_) (fun hhi hi => ?_)
      · rw [hhi] at hs
        rw [lg_cmp_gt, lg_cmp_gt]
        refine ⟨fun q => ?_, fun q => ⟨fun q2 => ?_, fun q2 => ?_⟩⟩
        · have := hs _ rfl
          rwa [if_neg (by simp [Int64.not_le.mpr q])] at this
        · have := hs _ rfl
          rwa [if_neg (by simp [Int64.not_le.mpr q2])] at this
        · have := hs _ rfl
          rwa [if_pos (by simp [Int64.not_lt.mp q, Int64.not_lt.mp q2])] at this
      · rw [hhi] at hnn
        have h9 := hnn rfl
        exact ⟨fun _ => h9 _, fun _ => ⟨fun _ => h9 _, fun _ => h9 _⟩⟩
    · rw [hlo] at hnn
      have h9 := hnn rfl
      refine wp_bOf hn ?_
      rw [ax_in h1 h2 hn, hB]
      exact wp_reckon0 w hb1 (by omega) hvb (fun hi _ => ⟨fun _ => h9 _, fun _ => ⟨fun _ => h9 _, fun _ => h9 _⟩⟩) (fun _ hi => ⟨fun _ => h9 _, fun _ => ⟨fun _ => h9 _, fun _ => h9 _⟩⟩)
  · have hv : isV (K x) = true := hx.resolve_right c
    unfold fitO at hs hnn
    rw [if_neg c] at hs hnn
    refine wp_reckon0 w h1 h2 hv (fun y hy => ?_) (fun hy y => ?_)
    · rw [hy] at hs
      rw [lg_cmp_eq]
      refine ⟨fun q => ?_, fun q => ?_⟩
      · have := hs _ rfl
        rwa [if_neg (by simp [q])] at this
      · have := hs _ rfl
        rwa [if_pos (by simp [q])] at this
    · rw [hy] at hnn
      have h9 := hnn rfl
      exact ⟨fun _ => h9 _, fun _ => h9 _⟩
theorem wp_fits_any {n : Nat} {K A B Z : Nat → Int32} {V : Nat → Int64} {cells : Nat} (w : WFn n K A B Z cells) {tg : Int32} {x : Nat} {v : Int64} {post : Int32 → Int32 → Prop} (h1 : 1 ≤ x) (h2 : x ≤ n) (hx : fitC K x) (h9 : ∀ r, post r 1) : wp_Sp_fits post (nI n) K A B (nI cells) V 1 tg (nI x) v :=
  wp_fits w h1 h2 hx (fun _ _ => h9 _) (fun _ => h9)
theorem wp_fits0 {n : Nat} {K A B : Nat → Int32} {V : Nat → Int64} {cells : Nat} {tg dz : Int32} {v : Int64} {post : Int32 → Int32 → Prop} (h : post 1 dz) : wp_Sp_fits post (nI n) K A B (nI cells) V dz tg 0 v :=
  ⟨fun c => absurd rfl c, fun _ => h⟩
/-- the statement of the first WHEN of list l that fits v: none where a value raises; 0 where none fits -/
def ftF (K A B : Nat → Int32) (V : Nat → Int64) : Nat → Nat → Int64 → Option Int32
  | 0, _, _ => some 0
  | d + 1, l, v => if l = 0 then some 0 else
      if A (A l).toNatClampNeg = 0 then some (B (A l).toNatClampNeg)
      else (fitO K A B V (A (A l).toNatClampNeg).toNatClampNeg v).bind fun b => if b then some (B (A l).toNatClampNeg) else ftF K A B V d (B l).toNatClampNeg v
def isL (K : Nat → Int32) (n l : Nat) : Prop := l = 0 ∨ (1 ≤ l ∧ l ≤ n ∧ K l = 15)
/-- a list: its WHEN, what the WHEN holds, and the rest -/
theorem list_cases {n : Nat} {K A B Z : Nat → Int32} {cells l : Nat} (w : WFn n K A B Z cells) (h1 : 1 ≤ l) (h2 : l ≤ n) (hk : K l = 15) :
    ∃ q r s : Nat, A l = nI q ∧ 1 ≤ q ∧ q < l ∧ K q = 16 ∧ B l = nI r ∧ r < l ∧ isL K n r ∧ B q = nI s ∧ 1 ≤ s ∧ s < q ∧ isS (K s) = true ∧ (A q = 0 ∨ ∃ x : Nat, A q = nI x ∧ 1 ≤ x ∧ x < q ∧ fitC K x) := by
  have hn := w.1
  obtain ⟨hA, hB, -⟩ := okN_k (c := 15) (w.2.2 l h1 h2) hk (by omega)
  obtain ⟨q, q1, q2, q3, q4⟩ := hA.2.2.2.2.2.2.1 rfl
  have q4 : K q = 16 := by simpa using q4
  obtain ⟨hA2, hB2, -⟩ := okN_k (c := 16) (w.2.2 q q1 (by omega)) q4 (by omega)
  obtain ⟨s, s1, s2, s3, s4⟩ := hB2.2.2.1 rfl
  have hr : ∃ r : Nat, B l = nI r ∧ r < l ∧ isL K n r := by
    rcases hB.2.2.2.2.2.1 rfl with h | ⟨r, r1, r2, r3, r4⟩
    · exact ⟨0, by rw [h, nI_0], h1, Or.inl rfl⟩
    · exact ⟨r, r3, r2, Or.inr ⟨r1, by omega, by simpa using r4⟩⟩
  obtain ⟨r, r1, r2, r3⟩ := hr
  refine ⟨q, r, s, q3, q1, q2, q4, r1, r2, r3, s3, s1, s2, s4, ?_⟩
  rcases hA2.2.2.2.2.2.2.2.1 rfl with h | ⟨x, x1, x2, x3, x4⟩ | ⟨x, x1, x2, x3, x4⟩
  · exact Or.inl h
  · exact Or.inr ⟨x, x3, x1, x2, Or.inl x4⟩
  · exact Or.inr ⟨x, x3, x1, x2, Or.inr (by simpa using x4)⟩
theorem wl_ff_any {n : Nat} {K A B Z : Nat → Int32} {V : Nat → Int64} {cells : Nat} (w : WFn n K A B Z cells) {tg : Int32} {v : Int64} {post : Int32 → Int32 → Prop} (h9 : ∀ r, post r 1) :
    ∀ (l t : Nat), isL K n l → l + t ≤ 200 → ∃ k, wl_Sp_firstFitting_6 post (nI n) K A B (nI cells) V tg k 1 v (nI l) (nI t) := by
  have hn := w.1
  intro l
  induction l using Nat.strongRecOn with
  | _ l ih =>
    intro t hl ht
    rcases hl with rfl | ⟨l1, l2, l3⟩
    · exact ⟨1, fun _ => h9 _, fun _ => ⟨fun _ => h9 _, fun c => absurd nI_0 c⟩⟩
    · obtain ⟨q, r, s, q3, q1, q2, q4, r1, r2, r3, s3, s1, s2, s4, hx⟩ := list_cases w l1 l2 l3
      obtain ⟨k, hk⟩ := ih r r2 (t + 1) r3 (by omega)
      refine ⟨k + 1, fun _ => h9 _, fun _ => ⟨fun _ => h9 _, fun _ => ?_⟩⟩
      refine wp_aOf hn ?_
      rw [ax_in l1 l2 hn, q3]
      refine wp_aOf hn ?_
      rw [ax_in q1 (by omega) hn]
      have hcont : ∀ r0 : Int32, (r0 = 0 → wp_Nd_bOf (fun r_63 => wl_Sp_firstFitting_6 post (nI n) K A B (nI cells) V tg k 1 v r_63 (nI t + 1)) (nI n) B (nI l)) ∧ (¬ r0 = 0 → wp_Nd_bOf (fun r_53 => post r_53 1) (nI n) B (nI q)) := by
        intro r0
        refine ⟨fun _ => wp_bOf hn ?_, fun _ => wp_bOf hn (h9 _)⟩
        rw [ax_in l1 l2 hn, r1, nI_1]
        exact hk
      rcases hx with hx | ⟨x, x3, x1, x2, x4⟩
      · rw [hx]; exact wp_fits0 (hcont 1)
      · rw [x3]; exact wp_fits_any w x1 (by omega) x4 hcont
theorem wl_ff {n : Nat} {K A B Z : Nat → Int32} {V : Nat → Int64} {cells : Nat} (w : WFn n K A B Z cells) {tg dz : Int32} {v : Int64} {post : Int32 → Int32 → Prop} :
    ∀ (l t d : Nat), isL K n l → l + t ≤ 200 → l ≤ d → (∀ s, ftF K A B V d l v = some s → post s dz) → (ftF K A B V d l v = none → ∀ r, post r 1) →
      ∃ k, wl_Sp_firstFitting_6 post (nI n) K A B (nI cells) V tg k dz v (nI l) (nI t) := by
  have hn := w.1
  intro l
  induction l using Nat.strongRecOn with
  | _ l ih =>
    intro t d hl ht hd hs hnn
    rcases hl with rfl | ⟨l1, l2, l3⟩
    · have h0 : post 0 dz := hs 0 (by cases d <;> simp [ftF])
      exact ⟨1, fun _ => h0, fun _ => ⟨fun _ => h0, fun c => absurd nI_0 c⟩⟩
    · obtain ⟨q, r, s, q3, q1, q2, q4, r1, r2, r3, s3, s1, s2, s4, hx⟩ := list_cases w l1 l2 l3
      obtain ⟨d, rfl⟩ : ∃ e, d = e + 1 := ⟨d - 1, by omega⟩
      have e0 : ¬ (200 : Int32) ≤ nI t := by rw [show (200 : Int32) = nI 200 from rfl, nI_leI (by omega) (by omega)]; omega
      have e1 : ¬ nI l = 0 := nI_ne0 l1 (by omega)
      simp only [ftF, if_neg (show ¬ l = 0 by omega), q3, r1, nI_clamp (show q < 2 ^ 31 by omega), nI_clamp (show r < 2 ^ 31 by omega)] at hs hnn
      rcases hx with hx | ⟨x, x3, x1, x2, x4⟩
      · rw [if_pos hx] at hs
        refine ⟨1, fun c => absurd c e0, fun _ => ⟨fun c => absurd c e1, fun _ => ?_⟩⟩
        refine wp_aOf hn ?_
        rw [ax_in l1 l2 hn, q3]
        refine wp_aOf hn ?_
        rw [ax_in q1 (by omega) hn, hx]
        refine wp_fits0 ⟨fun c => absurd c (by decide), fun _ => wp_bOf hn ?_⟩
        rw [ax_in q1 (by omega) hn]
        exact hs _ rfl
      · have hxz : ¬ A q = 0 := by rw [x3]; exact nI_ne0 x1 (by omega)
        rw [if_neg hxz, x3, nI_clamp (show x < 2 ^ 31 by omega)] at hs hnn
        cases hf : fitO K A B V x v with
        | none =>
          rw [hf] at hnn
          have h9 := hnn rfl
          obtain ⟨k, hk⟩ := wl_ff_any (v := v) (tg := tg) (V := V) w h9 r (t + 1) r3 (by omega)
          refine ⟨k + 1, fun c => absurd c e0, fun _ => ⟨fun c => absurd c e1, fun _ => ?_⟩⟩
          refine wp_aOf hn ?_
          rw [ax_in l1 l2 hn, q3]
          refine wp_aOf hn ?_
          rw [ax_in q1 (by omega) hn, x3]
          refine wp_fits w x1 (by omega) x4 (fun b hb => ?_) (fun _ r0 => ?_)
          · rw [hf] at hb; cases hb
          · refine ⟨fun _ => wp_bOf hn ?_, fun _ => wp_bOf hn (h9 _)⟩
            rw [ax_in l1 l2 hn, r1, nI_1]
            exact hk
        | some b =>
          rw [hf] at hs hnn
          cases b with
          | true =>
            refine ⟨1, fun c => absurd c e0, fun _ => ⟨fun c => absurd c e1, fun _ => ?_⟩⟩
            refine wp_aOf hn ?_
            rw [ax_in l1 l2 hn, q3]
            refine wp_aOf hn ?_
            rw [ax_in q1 (by omega) hn, x3]
            refine wp_fits w x1 (by omega) x4 (fun b hb => ?_) (fun hb => ?_)
            · rw [hf] at hb; cases hb
              refine ⟨fun c => absurd c (by decide), fun _ => wp_bOf hn ?_⟩
              rw [ax_in q1 (by omega) hn]
              exact hs _ rfl
            · rw [hf] at hb; cases hb
          | false =>
            obtain ⟨k, hk⟩ := ih r r2 (t + 1) d r3 (by omega) (by omega) (fun s hs2 => hs s hs2) (fun h => hnn h)
            refine ⟨k + 1, fun c => absurd c e0, fun _ => ⟨fun c => absurd c e1, fun _ => ?_⟩⟩
            refine wp_aOf hn ?_
            rw [ax_in l1 l2 hn, q3]
            refine wp_aOf hn ?_
            rw [ax_in q1 (by omega) hn, x3]
            refine wp_fits w x1 (by omega) x4 (fun b hb => ?_) (fun hb => ?_)
            · rw [hf] at hb; cases hb
              refine ⟨fun _ => wp_bOf hn ?_, fun c => absurd rfl c⟩
              rw [ax_in l1 l2 hn, r1, nI_1]
              exact hk
            · rw [hf] at hb; cases hb
