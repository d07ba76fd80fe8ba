section MN
variable {n : Nat} {K : Nat → Int32} {cells : Nat} {x : Int32}
theorem mt0 : mtB 0 n K cells x = true := by unfold mtB; rw [if_neg (by decide), if_neg (by decide), if_neg (by decide), if_neg (by decide), if_neg (by decide), if_neg (by decide), if_neg (by decide), if_neg (by decide), if_neg (by decide)]
theorem mt1 : mtB 1 n K cells x = (decide (¬ x < 0) && decide (¬ nI cells ≤ x)) := by unfold mtB; rw [if_pos rfl]
theorem mt2 : mtB 2 n K cells x = isV (kx n K x) := by unfold mtB; rw [if_neg (by decide), if_pos rfl]
theorem mt3 : mtB 3 n K cells x = isS (kx n K x) := by unfold mtB; rw [if_neg (by decide), if_neg (by decide), if_pos rfl]
theorem mt4 : mtB 4 n K cells x = (kx n K x == nI 13) := by unfold mtB; rw [if_neg (by decide), if_neg (by decide), if_neg (by decide), if_pos rfl]; rfl
theorem mt5 : mtB 5 n K cells x = (kx n K x == nI 15) := by unfold mtB; rw [if_neg (by decide), if_neg (by decide), if_neg (by decide), if_neg (by decide), if_pos rfl]; rfl
theorem mt6 : mtB 6 n K cells x = (x == 0 || kx n K x == nI 15) := by unfold mtB; rw [if_neg (by decide), if_neg (by decide), if_neg (by decide), if_neg (by decide), if_neg (by decide), if_pos rfl]; rfl
theorem mt7 : mtB 7 n K cells x = (kx n K x == nI 16) := by unfold mtB; rw [if_neg (by decide), if_neg (by decide), if_neg (by decide), if_neg (by decide), if_neg (by decide), if_neg (by decide), if_pos rfl]; rfl
theorem mt8 : mtB 8 n K cells x = (x == 0 || (isV (kx n K x) || kx n K x == nI 8)) := by unfold mtB; rw [if_neg (by decide), if_neg (by decide), if_neg (by decide), if_neg (by decide), if_neg (by decide), if_neg (by decide), if_neg (by decide), if_pos rfl]; rfl
theorem mt9 : mtB 9 n K cells x = (x == 0 || isS (kx n K x)) := by unfold mtB; rw [if_neg (by decide), if_neg (by decide), if_neg (by decide), if_neg (by decide), if_neg (by decide), if_neg (by decide), if_neg (by decide), if_neg (by decide), if_pos rfl]
end MN
theorem andP {post : Int32 → Prop} {b1 b2 : Bool} (h : post (bI (b1 && b2))) : (bI b1 = 0 → post 0) ∧ (¬ bI b1 = 0 → (bI b2 = 0 → post 0) ∧ (¬ bI b2 = 0 → post 1)) := by
  cases b1 <;> cases b2 <;> simp [bI] at h ⊢ <;> exact h
theorem eq0P {x : Int32} : (x == 0) = true ↔ x = 0 := by simp
section MM
variable {th : Int32} {sn : Int64} {pa wa at' hi be ra ne is' fa : Int32} {re : Int64} {post : Int32 → Prop} {n : Nat} {K : Nat → Int32} {cells : Nat} {a b : Int32}
theorem mo_needs (hk : kOK n K) {k : Nat} (hk25 : k ≤ 25) (hp : post (bI (mtB (tNA k) n K cells a && mtB (tNB k) n K cells b))) : wp_Mo_needs post th sn (nI cells) (nI n) pa wa at' hi be ra ne is' re fa K (nI k) a b := by
  have kq : ∀ j : Nat, j ≤ 25 → nI k = nI j → k = j := fun j hj q => by rwa [nI_eq (by omega) (by omega)] at q
  -- two values
  have vv : mtB (tNA k) n K cells a = isV (kx n K a) → mtB (tNB k) n K cells b = isV (kx n K b) → wp_Mo_isValue (fun r_124 => (r_124 = 0 → post 0) ∧ (¬ r_124 = 0 → wp_Mo_isValue (fun r_132 => (r_132 = 0 → post 0) ∧ (¬ r_132 = 0 → post 1)) th sn (nI cells) (nI n) pa wa at' hi be ra ne is' re fa K b)) th sn (nI cells) (nI n) pa wa at' hi be ra ne is' re fa K a := by
    intro e1 e2
    rw [e1, e2] at hp
    exact mo_isValue hk ⟨(andP hp).1, fun q => mo_isValue hk ((andP hp).2 q)⟩
  have ss : mtB (tNA k) n K cells a = isS (kx n K a) → mtB (tNB k) n K cells b = isS (kx n K b) → wp_Mo_isStatement (fun r_168 => (r_168 = 0 → post 0) ∧ (¬ r_168 = 0 → wp_Mo_isStatement (fun r_176 => (r_176 = 0 → post 0) ∧ (¬ r_176 = 0 → post 1)) th sn (nI cells) (nI n) pa wa at' hi be ra ne is' re fa K b)) th sn (nI cells) (nI n) pa wa at' hi be ra ne is' re fa K a := by
    intro e1 e2
    rw [e1, e2] at hp
    exact mo_isStatement hk ⟨(andP hp).1, fun q => mo_isStatement hk ((andP hp).2 q)⟩
  have v1 : mtB (tNA k) n K cells a = isV (kx n K a) → mtB (tNB k) n K cells b = true → wp_Mo_isValue (fun r => (r = 0 ∨ r = 1) ∧ post r) th sn (nI cells) (nI n) pa wa at' hi be ra ne is' re fa K a := by
    intro e1 e2
    rw [e1, e2, Bool.and_true] at hp
    exact mo_isValue hk ⟨bI_01 _, hp⟩
  unfold wp_Mo_needs
  refine ⟨fun c => ?_, fun c => ?_, fun c => ?_, fun c => ?_, fun c => ?_, fun c => ?_, fun c => ?_, fun c => ?_, fun c => ?_, fun c => ?_, fun c => ?_, fun c => ?_, fun c => ?_, fun c => ?_, fun c => ?_, fun c => ?_, fun c => ?_, fun c => ?_, fun c => ?_, fun c => ?_, fun c => ?_, fun c => ?_⟩
  · obtain rfl := kq 1 (by omega) c
    rw [show tNA 1 = 1 from rfl, show tNB 1 = 0 from rfl, mt1, mt0, Bool.and_true] at hp
    exact mo_isCell ⟨bI_01 _, hp⟩
  · obtain rfl := kq 2 (by omega) c; exact vv mt2 mt2
  · obtain rfl := kq 3 (by omega) c; exact vv mt2 mt2
  · obtain rfl := kq 4 (by omega) c; exact vv mt2 mt2
  · obtain rfl := kq 5 (by omega) c; exact vv mt2 mt2
  · obtain rfl := kq 6 (by omega) c; exact vv mt2 mt2
  · obtain rfl := kq 7 (by omega) c; exact vv mt2 mt2
  · obtain rfl := kq 8 (by omega) c; exact vv mt2 mt2
  · obtain rfl := kq 9 (by omega) c
    rw [show tNA 9 = 1 from rfl, show tNB 9 = 2 from rfl, mt1, mt2] at hp
    exact mo_isCell ⟨(andP hp).1, fun q => mo_isValue hk ((andP hp).2 q)⟩
  · obtain rfl := kq 10 (by omega) c; exact ss mt3 mt3
  · obtain rfl := kq 11 (by omega) c
    rw [show tNA 11 = 2 from rfl, show tNB 11 = 3 from rfl, mt2, mt3] at hp
    exact mo_isValue hk ⟨(andP hp).1, fun q => mo_isStatement hk ((andP hp).2 q)⟩
  · obtain rfl := kq 12 (by omega) c
    rw [show tNA 12 = 2 from rfl, show tNB 12 = 4 from rfl, mt2, mt4] at hp
    exact mo_isValue hk ⟨(andP hp).1, fun q => mo_isKind (j := 13) hk (by omega) ((andP hp).2 q)⟩
  · obtain rfl := kq 13 (by omega) c; exact ss mt3 mt3
  · obtain rfl := kq 14 (by omega) c
    rw [show tNA 14 = 2 from rfl, show tNB 14 = 5 from rfl, mt2, mt5] at hp
    exact mo_isValue hk ⟨(andP hp).1, fun q => mo_isKind (j := 15) hk (by omega) ((andP hp).2 q)⟩
  · obtain rfl := kq 15 (by omega) c
    rw [show tNA 15 = 7 from rfl, show tNB 15 = 6 from rfl, mt7, mt6] at hp
    refine mo_isKind (j := 16) hk (by omega) ⟨(andP hp).1, fun q => ⟨fun z => ?_, fun z => mo_isKind (j := 15) hk (by omega) ?_⟩⟩
    · refine ((andP hp).2 q).2 ?_
      rw [show (b == 0) = true from eq0P.mpr z, Bool.true_or]
      decide
    · have h9 := (andP hp).2 q
      rw [show (b == 0) = false from by simp [z], Bool.false_or] at h9
      exact h9
  · obtain rfl := kq 16 (by omega) c
    rw [show tNA 16 = 8 from rfl, show tNB 16 = 3 from rfl, mt8, mt3] at hp
    refine ⟨fun z => ?_, fun z => ?_⟩
    · rw [show (a == 0) = true from eq0P.mpr z, Bool.true_or] at hp
      exact mo_isStatement hk ((andP hp).2 (by decide))
    · rw [show (a == 0) = false from by simp [z], Bool.false_or] at hp
      refine mo_isValue hk ⟨fun q => ?_, fun q => ?_⟩
      · have hv : isV (kx n K a) = true := by
          cases h : isV (kx n K a) with
          | true => rfl
          | false => rw [h] at q; exact absurd rfl q
        rw [hv, Bool.true_or] at hp
        exact mo_isStatement hk ((andP hp).2 (by decide))
      · have hv : isV (kx n K a) = false := bI_0.mp q
        rw [hv, Bool.false_or] at hp
        exact mo_isKind (j := 8) hk (by omega) ⟨(andP hp).1, fun q => mo_isStatement hk ((andP hp).2 q)⟩
  · obtain rfl := kq 18 (by omega) c
    rw [show tNA 18 = 0 from rfl, show tNB 18 = 2 from rfl, mt0, mt2, Bool.true_and] at hp
    exact mo_isValue hk ⟨bI_01 _, hp⟩
  · obtain rfl := kq 22 (by omega) c
    rw [show tNA 22 = 3 from rfl, show tNB 22 = 0 from rfl, mt3, mt0, Bool.and_true] at hp
    exact mo_isStatement hk ⟨bI_01 _, hp⟩
  · obtain rfl := kq 23 (by omega) c; exact v1 mt2 mt0
  · obtain rfl := kq 24 (by omega) c; exact v1 mt2 mt0
  · obtain rfl := kq 25 (by omega) c
    rw [show tNA 25 = 9 from rfl, show tNB 25 = 9 from rfl, mt9, mt9] at hp
    have fin : ∀ b1 : Bool, b1 = true → post (bI (b1 && (b == 0 || isS (kx n K b)))) → (b = 0 → post 1) ∧ (¬ b = 0 → wp_Mo_isStatement (fun r_360 => (r_360 = 0 → post 0) ∧ (¬ r_360 = 0 → post 1)) th sn (nI cells) (nI n) pa wa at' hi be ra ne is' re fa K b) := by
      intro b1 h1 h
      subst h1
      refine ⟨fun z => ?_, fun z => mo_isStatement hk ?_⟩
      · rw [show (b == 0) = true from eq0P.mpr z, Bool.true_or] at h
        exact h
      · rw [show (b == 0) = false from by simp [z], Bool.false_or] at h
        exact (andP h).2 (by decide)
    refine ⟨fun z => fin _ ?_ hp, fun z => mo_isStatement hk ⟨fun q => ?_, fun q => fin _ ?_ hp⟩⟩
    · rw [show (a == 0) = true from eq0P.mpr z, Bool.true_or]
    · rw [show (a == 0) = false from by simp [z], bI_0.mp q] at hp
      exact hp
    · cases h : isS (kx n K a) with
      | true => rw [Bool.or_true]
      | false => rw [h] at q; exact absurd rfl q
  · have hkk : k = 0 ∨ k = 17 ∨ k = 19 ∨ k = 20 ∨ k = 21 := by
      obtain ⟨c1, c2, c3, c4, c5, c6, c7, c8, c9, c10, c11, c12, c13, c14, c15, c16, c18, c22, c23, c24, c25⟩ := c
      have ne : ∀ j : Nat, ¬ nI k = nI j → ¬ k = j := fun j h q => h (by rw [q])
      have := ne 1 c1; have := ne 2 c2; have := ne 3 c3; have := ne 4 c4; have := ne 5 c5; have := ne 6 c6; have := ne 7 c7; have := ne 8 c8; have := ne 9 c9; have := ne 10 c10
      have := ne 11 c11; have := ne 12 c12; have := ne 13 c13; have := ne 14 c14; have := ne 15 c15; have := ne 16 c16; have := ne 18 c18; have := ne 22 c22; have := ne 23 c23; have := ne 24 c24; have := ne 25 c25
      omega
    rcases hkk with rfl | rfl | rfl | rfl | rfl
    · rw [show tNA 0 = 0 from rfl, show tNB 0 = 0 from rfl, mt0, mt0] at hp; exact hp
    · rw [show tNA 17 = 0 from rfl, show tNB 17 = 0 from rfl, mt0, mt0] at hp; exact hp
    · rw [show tNA 19 = 0 from rfl, show tNB 19 = 0 from rfl, mt0, mt0] at hp; exact hp
    · rw [show tNA 20 = 0 from rfl, show tNB 20 = 0 from rfl, mt0, mt0] at hp; exact hp
    · rw [show tNA 21 = 0 from rfl, show tNB 21 = 0 from rfl, mt0, mt0] at hp; exact hp
end MM
