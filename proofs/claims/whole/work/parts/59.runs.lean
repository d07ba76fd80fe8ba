-- ===== steps held to 0 .. 1000 =====
def hS (a : Int64) : Nat := if a < 0 then 0 else if 1000 < a then 1000 else a.toInt.toNat
theorem hS_le (a : Int64) : hS a ≤ 1000 := by
  unfold hS
  by_cases h : a < 0
  · rw [if_pos h]; omega
  · rw [if_neg h]
    by_cases h2 : 1000 < a
    · rw [if_pos h2]; omega
    · rw [if_neg h2]
      rw [Int64.lt_iff_toInt_lt, show (1000 : Int64).toInt = 1000 by decide +kernel] at h2
      omega
theorem hS_mid {a : Int64} (h : ¬ a < 0) (h2 : ¬ 1000 < a) : a = lN (hS a) := by
  unfold hS
  rw [if_neg h, if_neg h2]
  rw [Int64.lt_iff_toInt_lt, show (1000 : Int64).toInt = 1000 by decide +kernel] at h2
  rw [Int64.lt_iff_toInt_lt, show (0 : Int64).toInt = 0 by decide +kernel] at h
  apply Int64.toInt_inj.mp
  rw [lN_toInt (by omega)]; omega
theorem wp_held {post : Int32 → Prop} {a : Int64} (hp : post (nI (hS a))) : wp_Pw_heldSteps post a := by
  unfold wp_Pw_heldSteps wp_Ma_min wp_Ma_max
  have r0 : (0 : Int64).toInt32 = nI 0 := by decide +kernel
  have r1 : (1000 : Int64).toInt32 = nI 1000 := by decide +kernel
  rw [lg_cmp_gt]
  by_cases h : a < 0
  · have e : hS a = 0 := by unfold hS; rw [if_pos h]
    rw [e] at hp
    have h1 : a < 1000 := by
      rw [Int64.lt_iff_toInt_lt] at h ⊢
      have e1 : (0 : Int64).toInt = 0 := by decide +kernel
      have e2 : (1000 : Int64).toInt = 1000 := by decide +kernel
      omega
    refine ⟨fun _ => ⟨fun q => ?_, fun _ => (by show post (0 : Int64).toInt32; rw [r0]; exact hp)⟩, fun q => absurd h1 q⟩
    rw [lg_cmp_lt] at q
    exact absurd (Int64.lt_trans q h) Int64.lt_irrefl
  · by_cases h2 : 1000 < a
    · have e : hS a = 1000 := by unfold hS; rw [if_neg h, if_pos h2]
      rw [e] at hp
      refine ⟨fun q => absurd (Int64.lt_trans q h2) Int64.lt_irrefl, fun _ => ⟨fun _ => (by show post (1000 : Int64).toInt32; rw [r1]; exact hp), fun q => absurd ?_ q⟩⟩
      rw [lg_cmp_lt]; decide
    · have e := hS_mid h h2
      have hle := hS_le a
      generalize hS a = k at e hp hle
      subst e
      have z0 : (0 : Int64) = lN 0 := rfl
      have z1 : (1000 : Int64) = lN 1000 := rfl
      refine ⟨fun _ => ⟨fun _ => (by show post (lN k).toInt32; rw [lN_i]; exact hp), fun q => ?_⟩, fun q => ⟨fun _ => ?_, fun q2 => absurd ?_ q2⟩⟩
      · rw [lg_cmp_lt, z0, lN_lt (by omega) (by omega)] at q
        have hk : k = 0 := by omega
        subst hk
        show post (0 : Int64).toInt32
        rw [r0]; exact hp
      · rw [z1, lN_lt (by omega) (by omega)] at q
        have hk : k = 1000 := by omega
        subst hk
        show post (1000 : Int64).toInt32
        rw [r1]; exact hp
      · rw [lg_cmp_lt]; decide
theorem mo_held {post : Int64 → Prop} {a : Int64} (hp : post (lN (hS a))) : wp_Mo_held post a := by
  unfold wp_Mo_held
  rw [lg_cmp_ge, lg_cmp_le]
  by_cases h : a < 0
  · have e : hS a = 0 := by unfold hS; rw [if_pos h]
    rw [e] at hp
    exact ⟨fun q => absurd h (Int64.not_lt.mpr q), fun _ => hp⟩
  · by_cases h2 : 1000 < a
    · have e : hS a = 1000 := by unfold hS; rw [if_neg h, if_pos h2]
      rw [e] at hp
      exact ⟨fun _ => ⟨fun q => absurd h2 (Int64.not_lt.mpr q), fun _ => hp⟩, fun q => absurd (Int64.not_lt.mp h) q⟩
    · have e := hS_mid h h2
      exact ⟨fun _ => ⟨fun _ => by rw [e]; exact hp, fun q => absurd (Int64.not_lt.mp h2) q⟩, fun q => absurd (Int64.not_lt.mp h) q⟩
-- ===== run and goOn, to the end of the turns =====
section RG
variable {n : Nat} {K A B Z : Nat → Int32} {cells : Nat} {pn : Nat} {S W aR aT R : Nat → Int32}
/-- the class's walk from any place, to its end -/
theorem cl_walk (w : WFn n K A B Z cells) (hpn : pn ≤ 30) (hW : okW cells W) (hR : ∀ c : Nat, 1 ≤ c → c ≤ pn → R c = 0 ∨ ∃ y : Nat, R c = nI y ∧ 1 ≤ y ∧ y ≤ n ∧ isS (K y) = true)
    {P : (Nat → Int64) → (Nat → Int32) → Int32 → Int32 → Int32 → Int32 → Int32 → Int64 → (Nat → Int32) → Int32 → Int32 → Int32 → Int32 → (Nat → Int32) → Prop}
    {x : List Nat × Nat × Dyn} {dz : Int32} {wS : Nat → Int32} {N : Nat} (hN : N < 432864) (hWI : WI n pn K dEn (dI aT) x) (hS : Stk wS x.1) (hE : ¬ dEn (TNs pn K A B R dEn dTg dEW (stD K A B pn S W aR aT) N x).2.2 = 3)
    (hP : ∀ dz' wS', Stk wS' (TNs pn K A B R dEn dTg dEW (stD K A B pn S W aR aT) N x).1 → rpW P (TNs pn K A B R dEn dTg dEW (stD K A B pn S W aR aT) N x) dz' wS') :
    wp_Wk_goAlong P (nI n) K A B (nI pn) R S aR aT (nI cells) W x.2.2.1 x.2.2.2.1 x.2.2.2.2.1 x.2.2.2.2.2.1 x.2.2.2.2.2.2.1 x.2.2.2.2.2.2.2.1 x.2.2.2.2.2.2.2.2.1 x.2.2.2.2.2.2.2.2.2.1 x.2.2.2.2.2.2.2.2.2.2.1 dz x.2.2.2.2.2.2.2.2.2.2.2 (nI x.1.length) (nI x.2.1) wS := by
  refine ⟨N + 1, ?_⟩
  have h9 := wp_goAlong (P := P) (aR := aR) (S := S) w hpn hW hR N 0 x dz wS hWI hS hE (by omega) hP
  rw [nI_0] at h9
  exact h9
theorem cl_run (w : WFn n K A B Z cells) (hpn : pn ≤ 30) (hW : okW cells W) (hR : ∀ c : Nat, 1 ≤ c → c ≤ pn → R c = 0 ∨ ∃ y : Nat, R c = nI y ∧ 1 ≤ y ∧ y ≤ n ∧ isS (K y) = true)
    {V : Nat → Int64} {T jB wS : Nat → Int32} {st p N : Nat} {s0 l0 e0 p0 r0 dz tg wd wc : Int32} {re : Int64} (hN : N < 432864) (hT : okT aT T) (hst : st ≤ 1000) (hp1 : 1 ≤ p) (hp2 : p ≤ pn) (zV : z40L V) (zT : z201 T)
    (hE : ¬ dEn (TNs pn K A B R dEn dTg dEW (stD K A B pn S W aR aT) N ([], p - 1, begD V T st re jB tg)).2.2 = 3)
    {post : Int32 → (Nat → Int64) → (Nat → Int32) → Int32 → Int32 → Int32 → Int32 → Int32 → Int64 → (Nat → Int32) → Int32 → Int32 → Int32 → Int32 → (Nat → Int32) → Prop}
    (hP : ∀ dz' wS', Stk wS' (TNs pn K A B R dEn dTg dEW (stD K A B pn S W aR aT) N ([], p - 1, begD V T st re jB tg)).1 → rpW (post (dEn (TNs pn K A B R dEn dTg dEW (stD K A B pn S W aR aT) N ([], p - 1, begD V T st re jB tg)).2.2)) (TNs pn K A B R dEn dTg dEW (stD K A B pn S W aR aT) N ([], p - 1, begD V T st re jB tg)) dz' wS') :
    wp_Pw_run post (nI n) K A B (nI pn) R S aR aT (nI cells) W V T s0 l0 e0 p0 r0 re jB dz tg wd wc wS (nI st) (nI p) := by
  unfold wp_Pw_run wp_Pg_has
  have g1 : ¬ nI p < 1 := by rw [show (1 : Int32) = nI 1 from rfl, nI_ltI (by omega) (by omega)]; omega
  refine ⟨fun q => absurd q g1, fun _ => ⟨fun q => absurd q (by rw [nI_ltI (by omega) (by omega)]; omega), fun _ => ⟨fun _ => ?_, fun q => absurd q (by decide)⟩⟩⟩
  unfold wp_Jo_start wp_Jo_goFurther wp_Wk_startAt
  obtain ⟨p', rfl⟩ : ∃ z, p = z + 1 := ⟨p - 1, by omega⟩
  rw [nI_pred]
  have x2W := beg_WI (n := n) (K := K) (re := re) (jB := jB) (tg := tg) hT hst hp1 hp2 zV zT
  exact cl_walk (x := (([], p' + 1 - 1, begD V T st re jB tg) : List Nat × Nat × Dyn)) w hpn hW hR hN (WI_mono x2W) trivial hE hP
theorem rf_run (w : WFn n K A B Z cells) (hpn : pn ≤ 30) (hW : okW cells W) (hR : ∀ c : Nat, 1 ≤ c → c ≤ pn → R c = 0 ∨ ∃ y : Nat, R c = nI y ∧ 1 ≤ y ∧ y ≤ n ∧ isS (K y) = true)
    {V : Nat → Int64} {T jB Na Q P mT : Nat → Int32} {U : Nat → Int64} {st p N : Nat} {th ce no at' hi be ra ne is' fa tg : Int32} {re : Int64} (hT : okT aT T) (hst : st ≤ 1000) (hp1 : 1 ≤ p) (hp2 : p ≤ pn) (zV : z40L V) (zT : z201 T) (hQ : QR aR aT T Na Q)
    (hE : ¬ dEn (TNs pn K A B R dEn dTg dEW (stD K A B pn S W aR aT) N ([], p - 1, begD V T st re jB tg)).2.2 = 3)
    {post : Int32 → Int32 → Int32 → Int32 → Int32 → Int32 → Int32 → Int32 → Int32 → Int64 → Int32 → (Nat → Int64) → (Nat → Int32) → (Nat → Int32) → (Nat → Int32) → (Nat → Int32) → (Nat → Int32) → (Nat → Int64) → Prop}
    (hP : finR (fun r wa at' hi' be' ra' ne' is'' re' fa' V' N' Q' P' O' T' U' => post r 0 wa at' hi' be' ra' ne' is'' re' fa' V' N' Q' P' O' T' U') n aR aT (TNs pn K A B R dEn dTg dEW (stD K A B pn S W aR aT) N ([], p - 1, begD V T st re jB tg))) :
    wp_Mo_run post th (lN st) ce no (nI pn) (wsm aT T n) at' hi be ra ne is' re fa W V K A B Na Q R S P jB mT U (nI p) := by
  unfold wp_Mo_run
  have g1 : ¬ nI p < 1 := by rw [show (1 : Int32) = nI 1 from rfl, nI_ltI (by omega) (by omega)]; omega
  refine ⟨fun q => absurd q g1, fun _ => ⟨fun _ => ?_, fun q => absurd (by rw [nI_leI (by omega) (by omega)]; omega) q⟩⟩
  obtain ⟨p', rfl⟩ : ∃ z, p = z + 1 := ⟨p - 1, by omega⟩
  rw [nI_pred]
  have x2W := beg_WI (n := n) (K := K) (re := re) (jB := jB) (tg := tg) hT hst hp1 hp2 zV zT
  exact ⟨N + 1, mo_walk w hpn hW hR N [] p' V T 0 (nI st) 0 0 re jB tg fa Na Q P mT U st (WI_mono x2W) trivial hQ rfl (by omega) hE hP⟩
end RG
