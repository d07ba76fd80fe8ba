section RW
variable {th : Int32} {sn : Int64} {ce no be ra ne is' : Int32} {re : Int64}
theorem mo_act {post : Int32 → Int32 → Int32 → Int32 → Int32 → Int64 → Int32 → (Nat → Int64) → (Nat → Int32) → (Nat → Int32) → (Nat → Int32) → (Nat → Int32) → (Nat → Int64) → Prop}
    {n : Nat} {K A B Z : Nat → Int32} {V : Nat → Int64} {cells : Nat} (w : WFn n K A B Z cells) {pn : Nat} {S W aR aT T N Q P mT : Nat → Int32} {U : Nat → Int64} {s p : Nat} {r : List Nat} {wa tg fa : Int32} (hpn : pn ≤ 30) (hp1 : 1 ≤ p) (hp2 : p ≤ pn) (hW : okW cells W)
    (h1 : 1 ≤ s) (h2 : s ≤ n) (hsS : isS (K s) = true) (hQ : QR aR aT T N Q) (hr : RStk P r) (hSI : SI n K r) (hrl : r.length ≤ 200)
    (hpost : ∀ r0 at' hi' fa' N' Q' P' T' U', outR (stepR K A B pn S W V (ansF aR aT T s) tg ra re s p) r p r0 at' hi' P' → QR aR aT (if K s = 25 then tkF aT T s else T) N' Q' →
      post r0 (if K s = 25 then waF aT T wa s else wa) at' hi' (stepR K A B pn S W V (ansF aR aT T s) tg ra re s p).2.2.2.1 (stepR K A B pn S W V (ansF aR aT T s) tg ra re s p).2.2.2.2.1 fa' (stepR K A B pn S W V (ansF aR aT T s) tg ra re s p).2.2.1 N' Q' P' T' U') :
    wp_Mo_act post th sn ce no (nI pn) wa (nI p) (nI r.length) be ra ne is' re fa W V K A B N Q S P mT U (nI s) := by
  have hn := w.1
  have vs : vp_in (nI s) 201 := vp_in_nI (by omega) (by omega)
  have cs : (nI s).toNatClampNeg = s := nI_clamp (by omega)
  unfold stepR at hpost
  -- good: the value v, the statement c
  have good : ∀ (v : Int64) (c : Int32) (mT' : Nat → Int32) (U' : Nat → Int64), valS K A B V s = some (v, c) → (K s = 14 → c = 0 ∨ ∃ y : Nat, 1 ≤ y ∧ y ≤ 200 ∧ c = nI y) → wj_Mo_act_122 post th sn ce no (nI pn) be ne is' W K A B S wa (nI p) (nI r.length) ra re 0 V N Q P mT' U' (nI s) (K s) v c := by
    intro v c mT' U' hv hc
    rw [hv] at hpost
    exact mo_act122 w hpn hp1 hp2 hW h1 h2 hQ hr hSI hrl hc (fun r0 at' hi' N' Q' P' ho hq => hpost r0 at' hi' 0 N' Q' P' mT' U' ho hq)
  have bad : ∀ (v : Int64) (c : Int32) (mT' : Nat → Int32) (U' : Nat → Int64), valS K A B V s = none → ¬ K s = 25 → wj_Mo_act_122 post th sn ce no (nI pn) be ne is' W K A B S wa (nI p) (nI r.length) ra re 1 V N Q P mT' U' (nI s) (K s) v c := by
    intro v c mT' U' hv k25
    rw [hv, if_neg k25, if_neg k25] at hpost
    exact ⟨fun q => absurd q (by decide), fun _ => hpost _ _ _ _ _ _ _ _ _ (Or.inr (Or.inr (Or.inr (Or.inr ⟨rfl, rfl, rfl, rfl, hr⟩)))) hQ⟩
  -- with a value node i
  have withV : ∀ (i : Nat), nvF K A B s = nI i → 1 ≤ i → i ≤ n → isV (K i) = true → ¬ K s = 25 →
      wp_Mo_value (fun r_84 mo_fails_84 mT_84 mU_84 => wj_Mo_act_91 post th sn ce no (nI pn) be ne is' W K A B S wa (nI p) (nI r.length) ra re mo_fails_84 V N Q P mT_84 mU_84 (nI s) (K s) r_84) th sn ce no (nI pn) wa (nI p) (nI r.length) be ra ne is' re 0 V K A B mT U (nI i) := by
    intro i hi i1 i2 i3 k25
    have hvs : valS K A B V s = (EV K A B V i).bind fun v => if K s = 14 then (ftF K A B V 200 (B s).toNatClampNeg v).bind fun c => some (v, c) else some (v, 0) := by
      unfold valS
      rw [hi, if_neg (nI_ne0 i1 (by omega)), nI_clamp (by omega)]
    refine mo_value w i1 i2 i3 (fun v T' U' hv => ?_) (fun hv T' U' => ?_)
    · unfold wj_Mo_act_91
      refine ⟨fun k => good v 0 T' U' (by rw [hvs, hv]; simp only [Option.bind, if_neg k]) (fun q => absurd q k), fun k => ⟨fun q => absurd rfl q, fun _ => ?_⟩⟩
      rw [cs]
      refine ⟨vs, ?_⟩
      obtain ⟨l, l1, l2, l3⟩ := eval_list w h1 h2 k
      have hvs2 : valS K A B V s = (ftF K A B V 200 l v).bind fun c => some (v, c) := by
        rw [hvs, hv]; simp only [Option.bind, if_pos k, l1, nI_clamp (show l < 2 ^ 31 by omega)]
      rw [l1]
      refine mo_fitting (d := 200) w l3 (by omega) (fun c T2 U2 hc => good v c T2 U2 (by rw [hvs2, hc]; rfl) (fun _ => ?_)) (fun hc T2 U2 => bad v 0 T2 U2 (by rw [hvs2, hc]; rfl) k25)
      rcases ftF_res w 200 l c l3 hc with e | ⟨y, e, y1, y2, -⟩
      · exact Or.inl e
      · exact Or.inr ⟨y, y1, by omega, e⟩
    · have hb : valS K A B V s = none := by rw [hvs, hv]; rfl
      unfold wj_Mo_act_91 wj_Mo_act_121
      exact ⟨fun _ => bad 0 0 T' U' hb k25, fun _ => ⟨fun _ => bad 0 0 T' U' hb k25, fun q => absurd q (by decide)⟩⟩
  obtain ⟨k, hk, hkc⟩ := stm_kind (w.2.2 s h1 h2) hsS
  have kne : ∀ j : Nat, j ≤ 25 → k ≠ j → ¬ K s = nI j := by
    intro j hj hkj q
    rw [hk, nI_eq (by omega) (by omega)] at q
    exact hkj q
  have hnv : nvF K A B s = if tNA k = 2 then A s else if tNB k = 2 then B s else 0 := by
    unfold nvF; rw [hk, nI_clamp (by omega)]
  unfold wp_Mo_act
  rw [cs]
  refine ⟨vs, ?_⟩
  -- first kinds
  have first : (k = 11 ∨ k = 12 ∨ k = 14 ∨ k = 23 ∨ k = 24) → wj_Mo_act_42 post th sn ce no (nI pn) be ne is' W K A B S wa (nI p) (nI r.length) ra re 0 V N Q P mT U (nI s) (K s) := by
    intro hkk
    have ht : tNA k = 2 := by rcases hkk with rfl | rfl | rfl | rfl | rfl <;> rfl
    obtain ⟨hA, -⟩ := okN_k (c := k) (w.2.2 s h1 h2) hk (by omega)
    obtain ⟨i, i1, i2, i3, i4⟩ := hA.2.1 ht
    rw [if_pos ht] at hnv
    unfold wj_Mo_act_42 wj_Mo_act_47
    refine ⟨fun q => absurd q (by decide), fun _ => ⟨vs, ?_⟩⟩
    rw [cs, i3]
    exact withV i (hnv.trans i3) i1 (by omega) i4 (kne 25 (by omega) (by omega))
  have e11 : (11 : Int32) = nI 11 := rfl
  have e12 : (12 : Int32) = nI 12 := rfl
  have e14 : (14 : Int32) = nI 14 := rfl
  have e23 : (23 : Int32) = nI 23 := rfl
  have e24 : (24 : Int32) = nI 24 := rfl
  have kq : ∀ j : Nat, j ≤ 25 → K s = nI j → k = j := by
    intro j hj q
    rw [hk, nI_eq (by omega) (by omega)] at q
    exact q
  refine ⟨fun q => first (Or.inl (kq 11 (by omega) q)), fun n11 => ⟨fun q => first (Or.inr (Or.inl (kq 12 (by omega) q))), fun n12 => ⟨fun q => first (Or.inr (Or.inr (Or.inl (kq 14 (by omega) q)))), fun n14 => ⟨fun q => first (Or.inr (Or.inr (Or.inr (Or.inl (kq 23 (by omega) q))))), fun n23 => ⟨fun n24 => ?_, fun q => first (Or.inr (Or.inr (Or.inr (Or.inr (kq 24 (by omega) q)))))⟩⟩⟩⟩⟩
  have hk2 : k = 9 ∨ k = 10 ∨ k = 17 ∨ k = 18 ∨ k = 19 ∨ k = 20 ∨ k = 21 ∨ k = 22 ∨ k = 25 := by
    have a1 : k ≠ 11 := fun q => n11 (by rw [hk, q]; rfl)
    have a2 : k ≠ 12 := fun q => n12 (by rw [hk, q]; rfl)
    have a3 : k ≠ 14 := fun q => n14 (by rw [hk, q]; rfl)
    have a4 : k ≠ 23 := fun q => n23 (by rw [hk, q]; rfl)
    have a5 : k ≠ 24 := fun q => n24 (by rw [hk, q]; rfl)
    omega
  unfold wj_Mo_act_47
  refine ⟨fun _ => ?_, fun q => absurd rfl q⟩
  have second : (k = 9 ∨ k = 18) → wj_Mo_act_77 post th sn ce no (nI pn) be ne is' W K A B S wa (nI p) (nI r.length) ra re 0 V N Q P mT U (nI s) (K s) := by
    intro hkk
    have hta : ¬ tNA k = 2 := by rcases hkk with rfl | rfl <;> decide
    have ht : tNB k = 2 := by rcases hkk with rfl | rfl <;> rfl
    obtain ⟨-, hB, -⟩ := okN_k (c := k) (w.2.2 s h1 h2) hk (by omega)
    obtain ⟨i, i1, i2, i3, i4⟩ := hB.2.1 ht
    rw [if_neg hta, if_pos ht] at hnv
    unfold wj_Mo_act_77
    refine ⟨vs, ?_⟩
    rw [cs, i3]
    exact withV i (hnv.trans i3) i1 (by omega) i4 (kne 25 (by omega) (by omega))
  refine ⟨fun q => second (Or.inl (kq 9 (by omega) q)), fun n9 => ⟨fun n18 => ?_, fun q => second (Or.inr (kq 18 (by omega) q))⟩⟩
  have b1 : k ≠ 9 := fun q => n9 (by rw [hk, q]; rfl)
  have b2 : k ≠ 18 := fun q => n18 (by rw [hk, q]; rfl)
  have hnv0 : nvF K A B s = 0 := by
    rw [hnv]
    rcases (show k = 10 ∨ k = 17 ∨ k = 19 ∨ k = 20 ∨ k = 21 ∨ k = 22 ∨ k = 25 by omega) with rfl | rfl | rfl | rfl | rfl | rfl | rfl <;> rfl
  unfold wj_Mo_act_91 wj_Mo_act_121
  refine ⟨fun q => good 0 0 mT U ?_ (fun q' => absurd q' q), fun q => absurd q n14⟩
  unfold valS
  rw [if_pos hnv0]
  simp only [Option.bind, if_neg n14]
end RW
-- ===== how many wait in all =====
def wsm (aT T : Nat → Int32) : Nat → Int32
  | 0 => 0
  | k + 1 => wsm aT T k + (aT (k + 1) - T (k + 1))
theorem wsm_upd {aT T : Nat → Int32} {s : Nat} {x : Int32} : ∀ k, k < s → wsm aT (upd T s x) k = wsm aT T k := by
  intro k
  induction k with
  | zero => intro _; rfl
  | succ k ih => intro h; simp only [wsm]; rw [ih (by omega), pk_un (by omega)]
theorem wsm_tk {aT T : Nat → Int32} {s n : Nat} (h1 : 1 ≤ s) (h2 : s ≤ n) : wsm aT (tkF aT T s) n = waF aT T (wsm aT T n) s := by
  unfold tkF waF
  by_cases c : 0 < aT s - T s
  · rw [if_pos c, if_pos c]
    have key : ∀ n, s ≤ n → wsm aT (upd T s (T s + 1)) n = wsm aT T n - 1 := by
      intro n
      induction n with
      | zero => intro h; omega
      | succ n ih =>
        intro h
        simp only [wsm]
        by_cases hn : s = n + 1
        · subst hn
          rw [wsm_upd n (by omega), pk_us]
          apply Int32.toBitVec_inj.mp
          simp only [Int32.toBitVec_add, Int32.toBitVec_sub]
          generalize (wsm aT T n).toBitVec = a
          generalize (aT (n + 1)).toBitVec = b
          generalize (T (n + 1)).toBitVec = d
          generalize (1 : Int32).toBitVec = e
          rw [BitVec.sub_eq_add_neg, BitVec.sub_eq_add_neg, BitVec.sub_eq_add_neg, BitVec.neg_add]
          simp only [BitVec.sub_eq_add_neg]
          ac_rfl
        · rw [ih (by omega), pk_un (by omega)]
          apply Int32.toBitVec_inj.mp
          simp only [Int32.toBitVec_add, Int32.toBitVec_sub, BitVec.sub_eq_add_neg]
          ac_rfl
    exact key n h2
  · rw [if_neg c, if_neg c]
