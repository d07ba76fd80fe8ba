-- ===== a program of nodes, well made =====
/-- x is the number of an earlier node with the property -/
def chN (K : Nat → Int32) (i : Nat) (x : Int32) (p : Int32 → Bool) : Prop := ∃ j : Nat, 1 ≤ j ∧ j < i ∧ x = nI j ∧ p (K j) = true
/-- what code c of the tables asks of x at node i -/
def needP (c : Int32) (K : Nat → Int32) (cells i : Nat) (x : Int32) : Prop :=
  (c = 1 → ∃ q : Nat, q < cells ∧ x = nI q) ∧ (c = 2 → chN K i x isV) ∧ (c = 3 → chN K i x isS) ∧ (c = 4 → chN K i x (fun k => k == 13)) ∧ (c = 5 → chN K i x (fun k => k == 15))
  ∧ (c = 6 → x = 0 ∨ chN K i x (fun k => k == 15)) ∧ (c = 7 → chN K i x (fun k => k == 16)) ∧ (c = 8 → x = 0 ∨ chN K i x isV ∨ chN K i x (fun k => k == 8)) ∧ (c = 9 → x = 0 ∨ chN K i x isS)
/-- node i is well made -/
def okN (K A B Z : Nat → Int32) (cells i : Nat) : Prop :=
  ∃ k : Nat, k ≤ 25 ∧ K i = nI k ∧ needP (tNA k) K cells i (A i) ∧ needP (tNB k) K cells i (B i)
    ∧ (k = 17 ∨ k = 18 → ∃ q : Nat, 1 ≤ q ∧ q ≤ 30 ∧ A i = nI q) ∧ (k = 19 → A i = 0 ∨ A i = 1)
    ∧ ∃ z : Nat, Z i = nI z ∧ 1 ≤ z ∧ z ≤ 100 ∧ (2 ≤ k → k ≤ 7 → ∀ a b : Nat, a < i → b < i → A i = nI a → B i = nI b → ∃ za zb : Nat, Z a = nI za ∧ Z b = nI zb ∧ z = 1 + za + zb)
def WFn (n : Nat) (K A B Z : Nat → Int32) (cells : Nat) : Prop := n ≤ 200 ∧ cells ≤ 40 ∧ ∀ i : Nat, 1 ≤ i → i ≤ n → okN K A B Z cells i
-- ===== values =====
def jnV (k : Int32) (x y : Int64) : Option Int64 :=
  if k = 2 then some (x + y) else if k = 3 then some (x - y) else if k = 4 then some (x * y) else if k = 5 then (if y = 0 then none else some (x / y)) else if k = 6 then some (if x < y then 1 else 0) else some (if x = y then 1 else 0)
def evV (K A B : Nat → Int32) (V : Nat → Int64) : Nat → Nat → Option Int64
  | 0, _ => none
  | d + 1, i => if K i = 0 then some (A i).toInt64 else if K i = 1 then some (V (A i).toNatClampNeg) else
      (evV K A B V d (A i).toNatClampNeg).bind fun x => (evV K A B V d (B i).toNatClampNeg).bind fun y => jnV (K i) x y
/-- the value of node i -/
def EV (K A B : Nat → Int32) (V : Nat → Int64) (i : Nat) : Option Int64 := evV K A B V i i
theorem tNA_0 : tNA 0 = 0 := rfl
/-- a value node: a number, a cell, or two earlier values -/
theorem val_cases {K A B Z : Nat → Int32} {cells i : Nat} (h : okN K A B Z cells i) (hv : isV (K i) = true) :
    K i = 0 ∨ (K i = 1 ∧ ∃ q : Nat, q < cells ∧ A i = nI q) ∨
    (∃ (k a b za zb : Nat), 2 ≤ k ∧ k ≤ 7 ∧ K i = nI k ∧ A i = nI a ∧ B i = nI b ∧ 1 ≤ a ∧ a < i ∧ 1 ≤ b ∧ b < i ∧ isV (K a) = true ∧ isV (K b) = true ∧ Z a = nI za ∧ Z b = nI zb ∧ Z i = nI (1 + za + zb) ∧ 1 + za + zb ≤ 100) := by
  obtain ⟨k, hk, hK, hA, hB, -, -, z, hz, hz1, hz2, hz3⟩ := h
  have hk8 : k < 8 := by
    rw [hK] at hv
    simp only [isV, Bool.and_eq_true, decide_eq_true_eq] at hv
    have := hv.2
    rw [i_lt, i_nat (by omega)] at this
    have e8 : (8 : Int32).toInt = 8 := by decide +kernel
    omega
  rcases (show k = 0 ∨ k = 1 ∨ (2 ≤ k ∧ k ≤ 7) by omega) with rfl | rfl | ⟨h2, h7⟩
  · exact Or.inl hK
  · exact Or.inr (Or.inl ⟨hK, hA.1 rfl⟩)
  · have e1 : ∀ k : Nat, 2 ≤ k → k ≤ 7 → tNA k = 2 ∧ tNB k = 2 := by
      intro k h1 h2
      rcases (show k = 2 ∨ k = 3 ∨ k = 4 ∨ k = 5 ∨ k = 6 ∨ k = 7 by omega) with rfl | rfl | rfl | rfl | rfl | rfl <;> exact ⟨rfl, rfl⟩
    obtain ⟨a, ha1, ha2, ha3, ha4⟩ := hA.2.1 (e1 k h2 h7).1
    obtain ⟨b, hb1, hb2, hb3, hb4⟩ := hB.2.1 (e1 k h2 h7).2
    obtain ⟨za, zb, e2, e3, e4⟩ := hz3 h2 h7 a b ha2 hb2 ha3 hb3
    exact Or.inr (Or.inr ⟨k, a, b, za, zb, h2, h7, hK, ha3, hb3, ha1, ha2, hb1, hb2, ha4, hb4, e2, e3, by rw [← e4]; exact hz, by omega⟩)
theorem nI_lit {k : Nat} {x : Int32} (h : Int32.ofNat k = x) : nI k = x := h
theorem evV_ge {n : Nat} {K A B Z : Nat → Int32} {V : Nat → Int64} {cells : Nat} (w : WFn n K A B Z cells) :
    ∀ (i d : Nat), 1 ≤ i → i ≤ n → i ≤ d → isV (K i) = true → evV K A B V d i = EV K A B V i := by
  intro i
  induction i using Nat.strongRecOn with
  | _ i ih =>
    intro d h1 h2 hd hv
    obtain ⟨d, rfl⟩ : ∃ e, d = e + 1 := ⟨d - 1, by omega⟩
    obtain ⟨j, rfl⟩ : ∃ e, i = e + 1 := ⟨i - 1, by omega⟩
    unfold EV
    rcases val_cases (w.2.2 _ h1 h2) hv with h | ⟨h, -⟩ | ⟨k, a, b, za, zb, hk2, hk7, hK, hA, hB, ha1, ha2, hb1, hb2, hva, hvb, -⟩
    · simp only [evV, if_pos h]
    · have h0 : ¬ K (j + 1) = 0 := by rw [h]; decide
      simp only [evV, if_neg h0, if_pos h]
    · simp only [evV]
      rw [hA, hB, nI_clamp (by have := w.1; omega), nI_clamp (by have := w.1; omega)]
      rw [ih a (by omega) d ha1 (by omega) (by omega) hva, ih a (by omega) j ha1 (by omega) (by omega) hva, ih b (by omega) d hb1 (by omega) (by omega) hvb, ih b (by omega) j hb1 (by omega) (by omega) hvb]
theorem EV_0 {K A B : Nat → Int32} {V : Nat → Int64} {i : Nat} (h1 : 1 ≤ i) (h : K i = 0) : EV K A B V i = some (A i).toInt64 := by
  obtain ⟨j, rfl⟩ : ∃ e, i = e + 1 := ⟨i - 1, by omega⟩
  simp only [EV, evV, if_pos h]
theorem EV_1 {K A B : Nat → Int32} {V : Nat → Int64} {i q : Nat} (h1 : 1 ≤ i) (h : K i = 1) (hA : A i = nI q) (hq : q < 2 ^ 31) : EV K A B V i = some (V q) := by
  obtain ⟨j, rfl⟩ : ∃ e, i = e + 1 := ⟨i - 1, by omega⟩
  simp only [EV, evV]
  rw [if_neg (by rw [h]; decide), if_pos h, hA, nI_clamp hq]
theorem EV_2 {n : Nat} {K A B Z : Nat → Int32} {V : Nat → Int64} {cells i a b : Nat} (w : WFn n K A B Z cells) (h1 : 1 ≤ i) (h2 : i ≤ n) (h0 : ¬ K i = 0) (h01 : ¬ K i = 1) (hA : A i = nI a) (hB : B i = nI b) (ha1 : 1 ≤ a) (ha2 : a < i) (hb1 : 1 ≤ b) (hb2 : b < i) (hva : isV (K a) = true) (hvb : isV (K b) = true) :
    EV K A B V i = (EV K A B V a).bind fun x => (EV K A B V b).bind fun y => jnV (K i) x y := by
  obtain ⟨j, rfl⟩ : ∃ e, i = e + 1 := ⟨i - 1, by omega⟩
  have := w.1
  rw [show EV K A B V (j + 1) = evV K A B V (j + 1) (j + 1) from rfl]
  simp only [evV]
  rw [if_neg h0, if_neg h01, hA, hB, nI_clamp (by omega), nI_clamp (by omega), evV_ge w a j ha1 (by omega) (by omega) hva, evV_ge w b j hb1 (by omega) (by omega) hvb]
-- ===== the class's join and reckon =====
theorem wp_join {post : Int64 → Int32 → Prop} {dz tg k : Int32} {x y : Int64} {kk : Nat} (hk : k = nI kk) (h2 : 2 ≤ kk) (h7 : kk ≤ 7) (hs : ∀ v, jnV k x y = some v → post v dz) (hn : jnV k x y = none → ∀ v, post v 1) : wp_Sp_join post dz tg k x y := by
  unfold wp_Sp_join
  unfold jnV at hs hn
  refine ⟨fun c => ?_, fun c => ?_, fun c => ?_, fun c => ⟨fun c2 => ?_, fun c2 => ?_⟩, fun c => ⟨fun c2 => ?_, fun c2 => ?_⟩, fun c => ⟨fun c2 => ?_, fun c2 => ?_⟩, fun c => ?_⟩
  · subst c; exact hs _ rfl
  · subst c; exact hs _ rfl
  · subst c; exact hs _ rfl
  · rw [lg_cmp_eq] at c2
    subst c; exact ⟨c2, hs _ (by simp [c2])⟩
  · rw [lg_cmp_eq] at c2
    subst c; exact hn (by simp [c2]) _
  · rw [lg_cmp_ge] at c2
    subst c; exact hs _ (by simp [Int64.not_lt.mpr c2])
  · rw [lg_cmp_ge] at c2
    subst c; exact hs _ (by simp [Int64.not_le.mp c2])
  · rw [lg_cmp_eq] at c2
    subst c; exact hs _ (by simp [c2])
  · rw [lg_cmp_eq] at c2
    subst c; exact hs _ (by simp [c2])
  · exfalso
    obtain ⟨q2, q3, q4, q5, q6, q7⟩ := c
    rcases (show kk = 2 ∨ kk = 3 ∨ kk = 4 ∨ kk = 5 ∨ kk = 6 ∨ kk = 7 by omega) with rfl | rfl | rfl | rfl | rfl | rfl
    · exact q2 hk
    · exact q3 hk
    · exact q4 hk
    · exact q5 hk
    · exact q6 hk
    · exact q7 hk
theorem wp_join_any {post : Int64 → Int32 → Prop} {tg k : Int32} {x y : Int64} (hn : ∀ v, post v 1) : wp_Sp_join post 1 tg k x y := by
  unfold wp_Sp_join
  refine ⟨fun c => hn _, fun c => hn _, fun c => hn _, fun c => ⟨fun c2 => ?_, fun c2 => hn _⟩, fun c => ⟨fun c2 => hn _, fun c2 => hn _⟩, fun c => ⟨fun c2 => hn _, fun c2 => hn _⟩, fun c => hn _⟩
  rw [lg_cmp_eq] at c2
  exact ⟨c2, hn _⟩
theorem wp_valueOf {post : Int64 → Prop} {cells q : Nat} {V : Nat → Int64} (hc : cells ≤ 40) (hq : q < cells) (hp : post (V q)) : wp_Sc_valueOf post (nI cells) V (nI q) := by
  unfold wp_Sc_valueOf
  refine ⟨fun c => absurd c ?_, fun c => ⟨fun c2 => absurd c2 ?_, fun c2 => ⟨vp_of0 c c2 (by omega) (by omega), ?_⟩⟩⟩
  · rw [i_lt, i_0, i_nat (by omega)]; omega
  · rw [i_le, i_nat (by omega), i_nat (by omega)]; omega
  · rwa [nI_clamp (by omega)]
theorem wp_reckon {n : Nat} {K A B Z : Nat → Int32} {V : Nat → Int64} {cells : Nat} (w : WFn n K A B Z cells) {tg : Int32} :
    ∀ (d i dp z : Nat) (dz : Int32) (post : Int64 → Int32 → Prop), 1 ≤ i → i ≤ n → isV (K i) = true → Z i = nI z → z < 2 ^ 31 → z < d → 2 * dp + z ≤ 100 → (∀ v, EV K A B V i = some v → post v dz) → (EV K A B V i = none → ∀ v, post v 1) →
      wp_Sp_reckon d post (nI n) K A B (nI cells) V dz tg (nI i) (nI dp) := by
  intro d
  have hn := w.1
  have hc := w.2.1
  induction d with
  | zero => intro i dp z dz post _ _ _ _ _ h; omega
  | succ d ih =>
    intro i dp z dz post h1 h2 hv hz hzs hzd hdp hs hnn
    unfold wp_Sp_reckon
    refine wp_kindOf hn ?_
    rw [kx_in h1 h2 hn]
    rcases val_cases (w.2.2 _ h1 h2) hv with h | ⟨h, q, hq, hA⟩ | ⟨k, a, b, za, zb, hk2, hk7, hK, hA, hB, ha1, ha2, hb1, hb2, hva, hvb, hza, hzb, hzi, hle⟩
    · rw [h]
      refine ⟨fun c => absurd rfl c, fun _ => ?_⟩
      refine wp_aOf hn ?_
      rw [ax_in h1 h2 hn]
      exact hs _ (EV_0 h1 h)
    · rw [h]
      refine ⟨fun _ => ⟨fun c => absurd rfl c, fun _ => ?_⟩, fun c => absurd c (by decide)⟩
      refine wp_aOf hn ?_
      rw [ax_in h1 h2 hn, hA]
      refine wp_valueOf hc hq ?_
      exact hs _ (EV_1 h1 h hA (by omega))
    · have hz' : z = 1 + za + zb := by
        have e := hz.symm.trans hzi
        rwa [nI_eq hzs (by omega)] at e
      have k0 : ¬ K i = 0 := by rw [hK, show (0 : Int32) = nI 0 from nI_0.symm, nI_eq (by omega) (by omega)]; omega
      have k1 : ¬ K i = 1 := by rw [hK, show (1 : Int32) = nI 1 from rfl, nI_eq (by omega) (by omega)]; omega
      have hEV := EV_2 (V := V) w h1 h2 k0 k1 hA hB ha1 ha2 hb1 hb2 hva hvb
      have c2 : ¬ K i < 2 := by
        rw [hK, show (2 : Int32) = nI 2 from rfl, i_lt, i_nat (by omega), i_nat (by omega)]; omega
      have c7 : ¬ (7 : Int32) < K i := by
        rw [hK, show (7 : Int32) = nI 7 from rfl, i_lt, i_nat (by omega), i_nat (by omega)]; omega
      have pos : ∀ x y : Nat, 1 ≤ x → x ≤ n → Z x = nI y → y ≤ 100 → 1 ≤ y := by
        intro x y hx1 hx2 hy hyl
        obtain ⟨k', -, -, -, -, -, -, z', e1, e2, e3, -⟩ := w.2.2 x hx1 hx2
        have e := hy.symm.trans e1
        rw [nI_eq (by omega) (by omega)] at e
        omega
      have pa := pos a za ha1 (by omega) hza (by omega)
      have pb := pos b zb hb1 (by omega) hzb (by omega)
      refine ⟨fun _ => ⟨fun _ => ⟨fun c => absurd c c2, fun _ => ⟨fun c => absurd c c7, fun _ => ⟨fun _ => ?_, fun c => absurd ?_ c⟩⟩⟩, fun c => absurd c k1⟩, fun c => absurd c k0⟩
      · refine wp_aOf hn ?_
        rw [ax_in h1 h2 hn, hA, nI_1]
        refine ih a (dp + 1) za _ _ ha1 (by omega) hva hza (by omega) (by omega) (by omega) (fun x hx => ?_) (fun hx x => ?_)
        · refine wp_bOf hn ?_
          rw [ax_in h1 h2 hn, hB]
          refine ih b (dp + 1) zb _ _ hb1 (by omega) hvb hzb (by omega) (by omega) (by omega) (fun y hy => ?_) (fun hy y => ?_)
          · refine wp_join hK hk2 hk7 (fun v hv => hs v ?_) (fun hv v => hnn ?_ v)
            · rw [hEV, hx, hy]; exact hv
            · rw [hEV, hx, hy]; exact hv
          · exact wp_join_any (hnn (by rw [hEV, hx, hy]; rfl))
        · refine wp_bOf hn ?_
          rw [ax_in h1 h2 hn, hB]
          have hall : ∀ v, post v 1 := hnn (by rw [hEV, hx]; rfl)
          exact ih b (dp + 1) zb _ _ hb1 (by omega) hvb hzb (by omega) (by omega) (by omega) (fun y hy => wp_join_any hall) (fun hy y => wp_join_any hall)
      · rw [show (50 : Int32) = nI 50 from rfl, i_lt, i_nat (by omega), i_nat (by omega)]; omega
