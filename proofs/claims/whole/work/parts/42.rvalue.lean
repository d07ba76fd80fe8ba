-- ===== the reference's value, by its two piles =====
theorem n_sub0 (i : Nat) : (0 : Int32) - (0 - nI i) = nI i := by
  rw [Int32.zero_sub, Int32.zero_sub, Int32.neg_neg]
theorem n_neg_le {i : Nat} (h : i < 2 ^ 31) : (0 : Int32) - nI i ≤ 0 := by
  rw [Int32.zero_sub, i_le, sb_negT h, i_0]; omega
theorem n_pos_nle {i : Nat} (h1 : 1 ≤ i) (h : i < 2 ^ 31) : ¬ nI i ≤ 0 := nI_nle (by omega) h
theorem nI_2 (m : Nat) : nI m + 2 = nI (m + 2) := by rw [show (2 : Int32) = nI 2 from rfl, nI_add]
theorem nI_3 (m : Nat) : nI m + 3 = nI (m + 3) := by rw [show (3 : Int32) = nI 3 from rfl, nI_add]
section MV
variable {th : Int32} {st : Int64} {ce no pa wa at' hi be ra ne is' : Int32} {re : Int64}
theorem mo_done {post : Int64 → Int32 → Prop} {k : Int32} {x y : Int64} {kk : Nat} (hk : k = nI kk) (h2 : 2 ≤ kk) (h7 : kk ≤ 7) (hs : ∀ v, jnV k x y = some v → post v 0) (hn : jnV k x y = none → ∀ v, post v 1) :
    wp_Mo_done post th st ce no pa wa at' hi be ra ne is' re 0 k x y := by
  unfold wp_Mo_done
  unfold jnV at hs hn
  refine ⟨fun c => ?_, fun c => ?_, fun c => ?_, fun c => ⟨fun c2 => ?_, fun c2 => ?_⟩, fun c => ⟨fun c2 => ?_, fun c2 => ?_⟩, fun c => ?_⟩
  · subst c; exact hs _ rfl
  · subst c; exact hs _ rfl
  · subst c; exact hs _ rfl
  · rw [lg_cmp_eq] at c2
    subst c
    unfold wj_Mo_done_64
    refine ⟨Or.inl rfl, fun _ => ⟨fun _ => ⟨c2, hs _ (by simp [c2])⟩, fun c3 => ?_⟩, fun q => absurd rfl q⟩
    rw [lg_cmp_eq] at c3
    subst c3
    refine hs _ ?_
    have e : x / (-1 : Int64) = 0 - x := by
      apply Int64.toInt_inj.mp
      rw [Int64.toInt_div, show (-1 : Int64).toInt = -1 by decide +kernel, Int64.toInt_sub, show (0 : Int64).toInt = 0 by decide +kernel, Int.tdiv_neg, Int.tdiv_one, Int.zero_sub]
    simp [e]
  · rw [lg_cmp_eq] at c2
    subst c
    unfold wj_Mo_done_64
    exact ⟨Or.inr rfl, fun q => absurd q (by decide), fun _ => hn (by simp [c2]) _⟩
  · rw [lg_cmp_ge] at c2
    subst c; exact hs _ (by simp [Int64.not_lt.mpr c2])
  · rw [lg_cmp_ge] at c2
    subst c; exact hs _ (by simp [Int64.not_le.mp c2])
  · obtain ⟨q2, q3, q4, q5, q6⟩ := c
    rw [if_neg q2, if_neg q3, if_neg q4, if_neg q5, if_neg q6] at hs
    refine ⟨fun c2 => ?_, fun c2 => ?_⟩
    · rw [lg_cmp_eq] at c2; exact hs _ (by simp [c2])
    · rw [lg_cmp_eq] at c2; exact hs _ (by simp [c2])
variable {post : Int64 → Int32 → (Nat → Int32) → (Nat → Int64) → Prop} {V : Nat → Int64} {K A B : Nat → Int32}
theorem mv_leaf {n m h i : Nat} {f : Int32} {T : Nat → Int32} {U : Nat → Int64} {v : Int64} (hT : T m = nI i) (h1 : 1 ≤ i) (h2 : i ≤ 200) (hm : m < 420) (hh : h < 210)
    (hv : (K i = 0 ∧ v = (A i).toInt64) ∨ (K i = 1 ∧ ∃ q : Nat, q < 40 ∧ A i = nI q ∧ v = V q))
    (k : wl_Mo_value_11 post th st ce no pa wa at' hi be ra ne is' re V K A B n f T (vp_updL U h v) (nI m) (nI (h + 1))) :
    wl_Mo_value_11 post th st ce no pa wa at' hi be ra ne is' re V K A B (n + 1) f T U (nI (m + 1)) (nI h) := by
  unfold wl_Mo_value_11
  refine ⟨fun c => absurd c (n_pos_nle (by omega) (by omega)), fun _ => ?_⟩
  rw [pk_m1, nI_clamp (show m < 2 ^ 31 by omega)]
  refine ⟨vp_in_nI hm (by omega), fun x hx => ?_⟩
  rw [hT] at hx
  subst hx
  refine ⟨fun c => absurd c (n_pos_nle h1 (by omega)), fun _ => ⟨vp_in_nI (by omega) (by omega), ?_⟩⟩
  rw [nI_clamp (show i < 2 ^ 31 by omega)]
  refine ⟨fun c => ?_, fun _ => ⟨vp_in_nI (by omega) (by omega), ?_⟩⟩
  · exfalso
    rcases hv with ⟨q, -⟩ | ⟨q, -⟩ <;> rw [q] at c <;> exact absurd c (by decide)
  rcases hv with ⟨q, rfl⟩ | ⟨q, c, hc, hA, rfl⟩
  · refine ⟨fun c => absurd q c, fun _ => ⟨vp_in_nI (by omega) (by omega), vp_in_nI hh (by omega), ?_⟩⟩
    rw [nI_clamp (show h < 2 ^ 31 by omega), nI_1]
    exact k
  · refine ⟨fun _ => ⟨vp_in_nI (by omega) (by omega), ?_, vp_in_nI hh (by omega), ?_⟩, fun c => absurd (q.symm.trans c) (by decide)⟩
    · rw [hA]; exact vp_in_nI hc (by omega)
    · rw [nI_clamp (show h < 2 ^ 31 by omega), nI_1, hA, nI_clamp (show c < 2 ^ 31 by omega)]
      exact k
theorem mv_open {n m h i : Nat} {f : Int32} {T : Nat → Int32} {U : Nat → Int64} (hT : T m = nI i) (h1 : 1 ≤ i) (h2 : i ≤ 200) (hm : m + 2 < 420) (hk : 2 ≤ K i)
    (k : wl_Mo_value_11 post th st ce no pa wa at' hi be ra ne is' re V K A B n f (upd (upd (upd T m (0 - nI i)) (m + 1) (B i)) (m + 2) (A i)) U (nI (m + 3)) (nI h)) :
    wl_Mo_value_11 post th st ce no pa wa at' hi be ra ne is' re V K A B (n + 1) f T U (nI (m + 1)) (nI h) := by
  unfold wl_Mo_value_11
  refine ⟨fun c => absurd c (n_pos_nle (by omega) (by omega)), fun _ => ?_⟩
  rw [pk_m1, nI_clamp (show m < 2 ^ 31 by omega)]
  refine ⟨vp_in_nI (by omega) (by omega), fun x hx => ?_⟩
  rw [hT] at hx
  subst hx
  refine ⟨fun c => absurd c (n_pos_nle h1 (by omega)), fun _ => ⟨vp_in_nI (by omega) (by omega), ?_⟩⟩
  rw [nI_clamp (show i < 2 ^ 31 by omega)]
  refine ⟨fun _ => ⟨fun c => absurd c (n_pos_nle h1 (by omega)), fun _ => ?_⟩, fun c => absurd hk c⟩
  rw [nI_1, nI_2, nI_3, nI_clamp (show m + 1 < 2 ^ 31 by omega), nI_clamp (show m + 2 < 2 ^ 31 by omega)]
  exact ⟨vp_in_nI (by omega) (by omega), vp_in_nI (by omega) (by omega), vp_in_nI (by omega) (by omega), vp_in_nI (by omega) (by omega), vp_in_nI (by omega) (by omega), k⟩
theorem mv_shut {n m h i kk : Nat} {T : Nat → Int32} {U : Nat → Int64} (hT : T m = 0 - nI i) (h1 : 1 ≤ i) (h2 : i ≤ 200) (hm : m < 420) (hh : h + 1 < 210) (hk : K i = nI kk) (hk2 : 2 ≤ kk) (hk7 : kk ≤ 7)
    (hs : ∀ v, jnV (K i) (U h) (U (h + 1)) = some v → wl_Mo_value_11 post th st ce no pa wa at' hi be ra ne is' re V K A B n 0 T (vp_updL U h v) (nI m) (nI (h + 1)))
    (hn : jnV (K i) (U h) (U (h + 1)) = none → ∀ T' U', post 0 1 T' U') :
    wl_Mo_value_11 post th st ce no pa wa at' hi be ra ne is' re V K A B (n + 1) 0 T U (nI (m + 1)) (nI (h + 2)) := by
  unfold wl_Mo_value_11
  refine ⟨fun c => absurd c (n_pos_nle (by omega) (by omega)), fun _ => ?_⟩
  rw [pk_m1, nI_clamp (show m < 2 ^ 31 by omega)]
  refine ⟨vp_in_nI hm (by omega), fun x hx => ?_⟩
  rw [hT] at hx
  subst hx
  refine ⟨fun _ => ⟨fun _ => ?_, fun c => absurd (n_neg_le (by omega)) c⟩, fun c => absurd (n_neg_le (by omega)) c⟩
  rw [n_sub0, pk_m1, nI_pred, nI_clamp (show i < 2 ^ 31 by omega), nI_clamp (show h < 2 ^ 31 by omega), nI_clamp (show h + 1 < 2 ^ 31 by omega)]
  refine ⟨vp_in_nI (by omega) (by omega), vp_in_nI (by omega) (by omega), vp_in_nI (by omega) (by omega), ?_⟩
  refine mo_done hk hk2 hk7 (fun v hv => ⟨vp_in_nI (by omega) (by omega), fun _ => hs v hv, fun c => absurd rfl c⟩) (fun hv v => ⟨vp_in_nI (by omega) (by omega), fun c => absurd c (by decide), fun _ => hn hv _ _⟩)
theorem mv_val {n : Nat} {Z : Nat → Int32} {cells : Nat} (w : WFn n K A B Z cells) :
    ∀ (i z m h : Nat) (T : Nat → Int32) (U : Nat → Int64), 1 ≤ i → i ≤ n → isV (K i) = true → Z i = nI z → z < 2 ^ 31 → T m = nI i → m + 2 * z ≤ 400 → h + z ≤ 200 → 1 ≤ z →
      (∀ (v : Int64) (T' : Nat → Int32) (U' : Nat → Int64), EV K A B V i = some v → (∀ j, j < m → T' j = T j) → (∀ j, j < h → U' j = U j) → U' h = v → ∃ k, wl_Mo_value_11 post th st ce no pa wa at' hi be ra ne is' re V K A B k 0 T' U' (nI m) (nI (h + 1))) →
      (EV K A B V i = none → ∀ T' U', post 0 1 T' U') →
      ∃ k, wl_Mo_value_11 post th st ce no pa wa at' hi be ra ne is' re V K A B k 0 T U (nI (m + 1)) (nI h) := by
  have hn := w.1
  have hc := w.2.1
  intro i
  induction i using Nat.strongRecOn with
  | _ i ih =>
    intro z m h T U h1 h2 hv hz hzs hT hm hh hz1 hs hnn
    rcases val_cases (w.2.2 _ h1 h2) hv with q | ⟨q, c, hq, hA⟩ | ⟨k, a, b, za, zb, hk2, hk7, hK, hA, hB, ha1, ha2, hb1, hb2, hva, hvb, hza, hzb, hzi, hle⟩
    · obtain ⟨k, hk⟩ := hs (A i).toInt64 T (vp_updL U h (A i).toInt64) (EV_0 h1 q) (fun _ _ => rfl) (fun j hj => pk_uLn (by omega)) pk_uLs
      exact ⟨k + 1, mv_leaf hT h1 (by omega) (by omega) (by omega) (Or.inl ⟨q, rfl⟩) hk⟩
    · obtain ⟨k, hk⟩ := hs (V c) T (vp_updL U h (V c)) (EV_1 h1 q hA (by omega)) (fun _ _ => rfl) (fun j hj => pk_uLn (by omega)) pk_uLs
      exact ⟨k + 1, mv_leaf hT h1 (by omega) (by omega) (by omega) (Or.inr ⟨q, c, by omega, hA, rfl⟩) hk⟩
    · have hz' : z = 1 + za + zb := by
        have e := hz.symm.trans hzi
        rwa [nI_eq hzs (by omega)] at e
      have k0 : ¬ K i = 0 := by rw [hK, show (0 : Int32) = nI 0 from nI_0.symm, nI_eq (by omega) (by omega)]; omega
      have k1 : ¬ K i = 1 := by rw [hK, show (1 : Int32) = nI 1 from rfl, nI_eq (by omega) (by omega)]; omega
      have kge : 2 ≤ K i := by rw [hK, show (2 : Int32) = nI 2 from rfl, nI_leI (by omega) (by omega)]; omega
      have hEV := EV_2 (V := V) w h1 h2 k0 k1 hA hB ha1 ha2 hb1 hb2 hva hvb
      have hzp : ∀ j zj, 1 ≤ j → j ≤ n → Z j = nI zj → zj < 2 ^ 31 → 1 ≤ zj := by
        intro j zj hj1 hj2 hj hjs
        obtain ⟨kj, -, -, -, -, -, -, zz, e1, e2, e3, -⟩ := w.2.2 j hj1 hj2
        have e := hj.symm.trans e1
        rw [nI_eq hjs (by omega)] at e
        omega
      have hza1 := hzp a za ha1 (by omega) hza (by omega)
      have hzb1 := hzp b zb hb1 (by omega) hzb (by omega)
      obtain ⟨k', hk'⟩ := ih a ha2 za (m + 2) h (upd (upd (upd T m (0 - nI i)) (m + 1) (B i)) (m + 2) (A i)) U ha1 (by omega) hva hza (by omega) (by rw [pk_us, hA]) (by omega) (by omega) hza1
        (fun x T1 U1 hx hT1 hU1 hx1 => by
          have e0 : T1 m = 0 - nI i := by rw [hT1 m (by omega), pk_un (by omega), pk_un (by omega), pk_us]
          have e1 : T1 (m + 1) = nI b := by rw [hT1 (m + 1) (by omega), pk_un (by omega), pk_us, hB]
          refine ih b hb2 zb (m + 1) (h + 1) T1 U1 hb1 (by omega) hvb hzb (by omega) e1 (by omega) (by omega) hzb1 (fun y T2 U2 hy hT2 hU2 hy2 => ?_) (fun hy => hnn (by rw [hEV, hx, hy]; rfl))
          have f0 : T2 m = 0 - nI i := by rw [hT2 m (by omega), e0]
          have g0 : U2 h = x := by rw [hU2 h (by omega), hx1]
          cases hj : jnV (K i) x y with
          | none =>
            refine ⟨1, mv_shut f0 h1 (by omega) (by omega) (by omega) hK hk2 hk7 (fun v hv => ?_) (fun _ => hnn (by rw [hEV, hx, hy]; exact hj))⟩
            rw [g0, hy2, hj] at hv
            cases hv
          | some v0 =>
            obtain ⟨k2, hk2'⟩ := hs v0 T2 (vp_updL U2 h v0) (by rw [hEV, hx, hy]; exact hj) (fun j hjm => by rw [hT2 j (by omega), hT1 j (by omega), pk_un (by omega), pk_un (by omega), pk_un (by omega)]) (fun j hjh => by rw [pk_uLn (by omega), hU2 j (by omega), hU1 j hjh]) pk_uLs
            refine ⟨k2 + 1, mv_shut f0 h1 (by omega) (by omega) (by omega) hK hk2 hk7 (fun v hv => ?_) (fun q => ?_)⟩
            · rw [g0, hy2, hj] at hv
              cases hv
              exact hk2'
            · rw [g0, hy2, hj] at q
              cases q)
        (fun hx => hnn (by rw [hEV, hx]; rfl))
      exact ⟨k' + 1, mv_open hT h1 (by omega) (by omega) kge hk'⟩
/-- the reference's value is the node's -/
theorem mo_value {n : Nat} {Z : Nat → Int32} {cells : Nat} (w : WFn n K A B Z cells) {i : Nat} (h1 : 1 ≤ i) (h2 : i ≤ n) (hv : isV (K i) = true) {T : Nat → Int32} {U : Nat → Int64}
    (hs : ∀ v T' U', EV K A B V i = some v → post v 0 T' U') (hn : EV K A B V i = none → ∀ T' U', post 0 1 T' U') :
    wp_Mo_value post th st ce no pa wa at' hi be ra ne is' re 0 V K A B T U (nI i) := by
  unfold wp_Mo_value
  refine ⟨(show vp_in (nI 0) 420 from vp_in_nI (by omega) (by omega)), ?_⟩
  obtain ⟨kj, -, -, -, -, -, -, z, e1, e2, e3, -⟩ := w.2.2 i h1 h2
  refine mv_val (post := post) w i z 0 0 _ _ h1 h2 hv e1 (by omega) pk_us (by omega) (by omega) e2 (fun v T' U' hv' hT' hU' hv2 => ?_) hn
  refine ⟨1, ?_⟩
  unfold wl_Mo_value_11
  refine ⟨fun _ => ⟨(show vp_in (nI 0) 210 from vp_in_nI (by omega) (by omega)), ?_⟩, fun c => absurd (by decide) c⟩
  have := hs v T' U' hv'
  rw [← hv2] at this
  exact this
end MV
