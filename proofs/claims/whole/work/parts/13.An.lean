def wp_An_tell (post : Int32 → (Nat → Int32) → (Nat → Int32) → Prop) (aR : (Nat → Int32)) (aT : (Nat → Int32)) (a1 : Int32) (a2 : Int32) (a3 : Int32) : Prop := ((a1 < 0 → (post (-2) aR aT)) ∧ (¬ a1 < 0 → ((a1 < 201 → (vp_in a1 201 ∧ ((((aT a1.toNatClampNeg) - a3) < 20 → (vp_in a1 201 ∧ (wp_Ma_floorMod (fun (r_47 : Int32) => (vp_in ((a1 * 20) + r_47) 4020 ∧ (vp_in a1 201 ∧ (vp_in a1 201 ∧ (vp_in a1 201 ∧ (post (((upd aT a1.toNatClampNeg ((aT a1.toNatClampNeg) + 1)) a1.toNatClampNeg) - a3) (upd aR ((a1 * 20) + r_47).toNatClampNeg (vp_nar .byte (a2.toInt8.toInt32))) (upd aT a1.toNatClampNeg ((aT a1.toNatClampNeg) + 1)))))))) (aT a1.toNatClampNeg) 20))) ∧ (¬ ((aT a1.toNatClampNeg) - a3) < 20 → (post (-1) aR aT))))) ∧ (¬ a1 < 201 → (post (-2) aR aT)))))
set_option maxHeartbeats 4000000 in
set_option maxRecDepth 100000 in
theorem met_An_tell (l : Launch) (dC : Nat → ClassId) (dI : Nat → Nat → Nat) (cI cL cB : ClassId) (sz : Nat) (h_an h_aR h_aT : Nat) (aR : (Nat → Int32)) (aT : (Nat → Int32)) (a1 : Int32) (a2 : Int32) (a3 : Int32) (post : Int32 → (Nat → Int32) → (Nat → Int32) → Prop) (hw : wp_An_tell post aR aT a1 a2 a3) : Met l yAn_tell wsAn_tell ({ frames := 1, cells := 0, slots := 0, locals := 22 } : Room) (va_Pc [.ref h_an, .int a1, .int a2, .int a3] (fun U => U.heap.size = sz ∧ va_P (dC, dI) vwCl [(h_an, .inr (0, [.ref h_aR, .ref h_aT])), (h_aR, .inl (cB, 4020, .inl aR)), (h_aT, .inl (cI, 201, .inl aT))] U.heap ∧ KK dC dI cI cL cB U ∧ va_D (fun _ => True) [(h_an, .inr (0, [.ref h_aR, .ref h_aT])), (h_aR, .inl (cB, 4020, .inl aR)), (h_aT, .inl (cI, 201, .inl aT))])) (va_Qi (fun (r : Int32) (u : (Nat → Int32) × (Nat → Int32)) => post r u.1 u.2) (fun (u : (Nat → Int32) × (Nat → Int32)) t => va_P (dC, dI) vwCl [(h_an, .inr (0, [.ref h_aR, .ref h_aT])), (h_aR, .inl (cB, 4020, .inl u.1)), (h_aT, .inl (cI, 201, .inl u.2))] t.heap ∧ va_D (va_A [(h_an, .inr (0, [.ref h_aR, .ref h_aT])), (h_aR, .inl (cB, 4020, .inl aR)), (h_aT, .inl (cI, 201, .inl aT))] sz) [(h_an, .inr (0, [.ref h_aR, .ref h_aT])), (h_aR, .inl (cB, 4020, .inl u.1)), (h_aT, .inl (cI, 201, .inl u.2))]) (va_A [(h_an, .inr (0, [.ref h_aR, .ref h_aT])), (h_aR, .inl (cB, 4020, .inl aR)), (h_aT, .inl (cI, 201, .inl aT))] sz)) 0 0 (va_A [(h_an, .inr (0, [.ref h_aR, .ref h_aT])), (h_aR, .inl (cB, 4020, .inl aR)), (h_aT, .inl (cI, 201, .inl aT))] sz) := by
  refine Met.ofW (cc := cAn_tell) (maxL := 4) (ret := (some .int)) (by decide) rfl ?_
  intro p e s m args below meth c s₁ B hml hv
  obtain ⟨rfl, hsz, hP, hK, hD0⟩ := hv
  have hx := B.exec
  have hb := B.bytes
  have hr := B.returns
  have hts := atoms_spec (ws := wsAn_tell) B.pre
  have hown : s.vm.findClass RAn = some m.cls := findClass_of_methodNamed B.named
  have hlocks := B.notSynchronized
  subst hsz
  have hD := hD0.self (sz := s.heap.size)
  generalize hAe : va_A [(h_an, .inr (0, [.ref h_aR, .ref h_aT])), (h_aR, .inl (cB, 4020, .inl aR)), (h_aT, .inl (cI, 201, .inl aT))] s.heap.size = A at hD ⊢
  have hA : ∀ q : Nat, s.heap.size ≤ q → A q := fun q h => by rw [← hAe]; exact Or.inr h
  have hS : va_S A s.heap s.heap [] := va_S.rf
  have hP : va_P (dC, dI) vwCl [(h_an, .inr (0, [.ref h_aR, .ref h_aT])), (h_aR, .inl (cB, 4020, .inl aR)), (h_aT, .inl (cI, 201, .inl aT))] s.heap := hP
  have htb : ∀ w ∈ TB, w.before _ s = true := fun w h => hts w (List.mem_cons_of_mem _ h)
  have hf_9 := htb _ kw_119
  have hf_15 := htb _ kw_120
  have hl := lv_entry ([.ref h_an, .int a1, .int a2, .int a3]) (n := 4) (Nat.le_of_ble_eq_true rfl)
  rw [lg_entry_eq]
  generalize (lg_sl ([.ref h_an, .int a1, .int a2, .int a3]) ++ List.replicate (4 - (lg_sl ([.ref h_an, .int a1, .int a2, .int a3])).length) Slot.unset).toArray = ls at hl ⊢
  have hl : lv_has ls 4 [(0, .ref h_an), (1, .int a1), (2, .int a2), (3, .int a3)] := hl
  unfold wp_An_tell at hw
  refine lv_iload_n hx hb dAn_tell_0 rfl (lv_at hl 1 rfl) ?_
  refine lv_if_lt (tgt := 13) hx hb dAn_tell_1 (by decide) (fun c_1 => ?_) (fun c_1 => ?_)
  · have hw := hw.1 c_1
    refine lv_bipush (v := (-2)) hx hb dAn_tell_13 (by decide +kernel) ?_
    have hP9 := hP.sub (ws' := [(h_an, .inr (0, [.ref h_aR, .ref h_aT])), (h_aR, .inl (cB, 4020, .inl aR)), (h_aT, .inl (cI, 201, .inl aT))]) [0, 1, 2] rfl
    have hD9 := hD.sub (ws' := [(h_an, .inr (0, [.ref h_aR, .ref h_aT])), (h_aR, .inl (cB, 4020, .inl aR)), (h_aT, .inl (cI, 201, .inl aT))]) [0, 1, 2] (by decide) rfl
    exact W.iret (v := (-2)) hx hb hr (fun t ht hW => ⟨⟨_, (aR, aT), rfl, hw, by rw [ht]; exact hP9, hD9⟩, hS.F ht⟩) hS.2.2 dAn_tell_15
  · have hw := hw.2 c_1
    refine lv_iload_n hx hb dAn_tell_4 rfl (lv_at hl 1 rfl) ?_
    refine lv_aload_n hx hb dAn_tell_5 rfl (lv_at hl 0 rfl) ?_
    refine va_get (D := (dC, dI)) (ci := 0) (v := .ref h_aT) (C := RAn) (T := TAn) (N := 2) hx hb htb in_An hown hK.1 hP 0 rfl rfl 1 (by decide) hf_15 (fun _ h9 => h9) rfl dAn_tell_6 ?_
    refine va_alen (v := 201) hx hb hK.1 hP 2 0 rfl rfl (show Int32.ofNat 201 = 201 by decide +kernel) dAn_tell_9 ?_
    refine lv_icmp_lt (tgt := 16) hx hb dAn_tell_10 (by decide) (fun c_10 => ?_) (fun c_10 => ?_)
    · have hw := hw.1 c_10
      refine lv_aload_n hx hb dAn_tell_16 rfl (lv_at hl 0 rfl) ?_
      refine va_get (D := (dC, dI)) (ci := 0) (v := .ref h_aT) (C := RAn) (T := TAn) (N := 2) hx hb htb in_An hown hK.1 hP 0 rfl rfl 1 (by decide) hf_15 (fun _ h9 => h9) rfl dAn_tell_17 ?_
      refine lv_iload_n hx hb dAn_tell_20 rfl (lv_at hl 1 rfl) ?_
      obtain ⟨hin, hw⟩ := hw
      refine va_iald hx hb hK.1 hP 2 0 rfl rfl hin dAn_tell_21 ?_
      refine lv_iload_n hx hb dAn_tell_22 rfl (lv_at hl 3 rfl) ?_
      refine lv_isub hx hb dAn_tell_23 ?_
      refine lv_bipush (v := 20) hx hb dAn_tell_24 (by decide +kernel) ?_
      refine lv_icmp_lt (tgt := 31) hx hb dAn_tell_26 (by decide) (fun c_26 => ?_) (fun c_26 => ?_)
      · have hw := hw.1 c_26
        refine lv_aload_n hx hb dAn_tell_31 rfl (lv_at hl 0 rfl) ?_
        refine va_get (D := (dC, dI)) (ci := 0) (v := .ref h_aR) (C := RAn) (T := TAn) (N := 2) hx hb htb in_An hown hK.1 hP 0 rfl rfl 0 (by decide) hf_9 (fun _ h9 => h9) rfl dAn_tell_32 ?_
        refine lv_iload_n hx hb dAn_tell_35 rfl (lv_at hl 1 rfl) ?_
        refine lv_bipush (v := 20) hx hb dAn_tell_36 (by decide +kernel) ?_
        refine lv_imul hx hb dAn_tell_38 ?_
        refine lv_aload_n hx hb dAn_tell_39 rfl (lv_at hl 0 rfl) ?_
        refine va_get (D := (dC, dI)) (ci := 0) (v := .ref h_aT) (C := RAn) (T := TAn) (N := 2) hx hb htb in_An hown hK.1 hP 0 rfl rfl 1 (by decide) hf_15 (fun _ h9 => h9) rfl dAn_tell_40 ?_
        refine lv_iload_n hx hb dAn_tell_43 rfl (lv_at hl 1 rfl) ?_
        obtain ⟨hin, hw⟩ := hw
        refine va_iald hx hb hK.1 hP 2 0 rfl rfl hin dAn_tell_44 ?_
        refine lv_bipush (v := 20) hx hb dAn_tell_45 (by decide +kernel) ?_
        refine ro_ci (va_runS (As := [.int (aT a1.toNatClampNeg), .int 20]) (rest := [.int (a1 * 20), .ref h_aR]) ⟨hx, hb, hml, hown, htb⟩ (met_Ma_floorMod l dC dI cI cL cB (aT a1.toNatClampNeg) 20 _ hw) (va_cwS 2 htb (gdS kw_372 kw_373 kw_39 kw_374) rfl rfl rfl (by decide +kernel) ⟨Nat.le_of_ble_eq_true rfl, Nat.le_of_ble_eq_true rfl⟩) ⟨fun a U g mk q => by obtain ⟨q0, qP, qK⟩ := q; exact ⟨q0, qP, KK_c qK⟩, fun U hU hW => ⟨rfl, by rw [hU]; exact fun k q h => by simp at h, KK_w hW hK⟩⟩ rfl rfl hl.1 rfl (lv_room (Nat.le_of_ble_eq_true rfl)) dAn_tell_47 ⟨Nat.zero_le _, Nat.zero_le _⟩) (fun r_47 hw => ?_)
        try dsimp only at hw
        refine lv_iadd hx hb dAn_tell_50 ?_
        refine lv_iload_n hx hb dAn_tell_51 rfl (lv_at hl 2 rfl) ?_
        refine lv_i2b hx hb dAn_tell_52 rfl ?_
        obtain ⟨hin, hw⟩ := hw
        refine va_bast hx hb hK.1 hP hD hS 1 2 rfl rfl hin dAn_tell_53 (fun H locs hP hD hS => ?_)
        have hP : va_P (dC, dI) vwCl [(h_an, .inr (0, [.ref h_aR, .ref h_aT])), (h_aR, .inl (cB, 4020, .inl (upd aR ((a1 * 20) + r_47).toNatClampNeg (vp_nar .byte (a2.toInt8.toInt32))))), (h_aT, .inl (cI, 201, .inl aT))] H := hP
        have hD : va_D A [(h_an, .inr (0, [.ref h_aR, .ref h_aT])), (h_aR, .inl (cB, 4020, .inl (upd aR ((a1 * 20) + r_47).toNatClampNeg (vp_nar .byte (a2.toInt8.toInt32))))), (h_aT, .inl (cI, 201, .inl aT))] := hD
        refine lv_aload_n hx hb dAn_tell_54 rfl (lv_at hl 0 rfl) ?_
        refine va_get (D := (dC, dI)) (ci := 0) (v := .ref h_aT) (C := RAn) (T := TAn) (N := 2) hx hb htb in_An hown hK.1 hP 0 rfl rfl 1 (by decide) hf_15 (fun _ h9 => h9) rfl dAn_tell_55 ?_
        refine lv_iload_n hx hb dAn_tell_58 rfl (lv_at hl 1 rfl) ?_
        refine lv_dup2_11 hx hb dAn_tell_59 rfl rfl ?_
        obtain ⟨hin, hw⟩ := hw
        refine va_iald hx hb hK.1 hP 2 0 rfl rfl hin dAn_tell_60 ?_
        refine lv_iconst (v := 1) hx hb dAn_tell_61 (by decide) ?_
        refine lv_iadd hx hb dAn_tell_62 ?_
        obtain ⟨hin, hw⟩ := hw
        refine va_iast hx hb hK.1 hP hD hS 2 0 rfl rfl hin dAn_tell_63 (fun H locs hP hD hS => ?_)
        have hP : va_P (dC, dI) vwCl [(h_an, .inr (0, [.ref h_aR, .ref h_aT])), (h_aR, .inl (cB, 4020, .inl (upd aR ((a1 * 20) + r_47).toNatClampNeg (vp_nar .byte (a2.toInt8.toInt32))))), (h_aT, .inl (cI, 201, .inl (upd aT a1.toNatClampNeg ((aT a1.toNatClampNeg) + 1))))] H := hP
        have hD : va_D A [(h_an, .inr (0, [.ref h_aR, .ref h_aT])), (h_aR, .inl (cB, 4020, .inl (upd aR ((a1 * 20) + r_47).toNatClampNeg (vp_nar .byte (a2.toInt8.toInt32))))), (h_aT, .inl (cI, 201, .inl (upd aT a1.toNatClampNeg ((aT a1.toNatClampNeg) + 1))))] := hD
        refine lv_aload_n hx hb dAn_tell_64 rfl (lv_at hl 0 rfl) ?_
        refine va_get (D := (dC, dI)) (ci := 0) (v := .ref h_aT) (C := RAn) (T := TAn) (N := 2) hx hb htb in_An hown hK.1 hP 0 rfl rfl 1 (by decide) hf_15 (fun _ h9 => h9) rfl dAn_tell_65 ?_
        refine lv_iload_n hx hb dAn_tell_68 rfl (lv_at hl 1 rfl) ?_
        obtain ⟨hin, hw⟩ := hw
        refine va_iald hx hb hK.1 hP 2 0 rfl rfl hin dAn_tell_69 ?_
        refine lv_iload_n hx hb dAn_tell_70 rfl (lv_at hl 3 rfl) ?_
        refine lv_isub hx hb dAn_tell_71 ?_
        have hP9 := hP.sub (ws' := [(h_an, .inr (0, [.ref h_aR, .ref h_aT])), (h_aR, .inl (cB, 4020, .inl (upd aR ((a1 * 20) + r_47).toNatClampNeg (vp_nar .byte (a2.toInt8.toInt32))))), (h_aT, .inl (cI, 201, .inl (upd aT a1.toNatClampNeg ((aT a1.toNatClampNeg) + 1))))]) [0, 1, 2] rfl
        have hD9 := hD.sub (ws' := [(h_an, .inr (0, [.ref h_aR, .ref h_aT])), (h_aR, .inl (cB, 4020, .inl (upd aR ((a1 * 20) + r_47).toNatClampNeg (vp_nar .byte (a2.toInt8.toInt32))))), (h_aT, .inl (cI, 201, .inl (upd aT a1.toNatClampNeg ((aT a1.toNatClampNeg) + 1))))]) [0, 1, 2] (by decide) rfl
        exact W.iret (v := (((upd aT a1.toNatClampNeg ((aT a1.toNatClampNeg) + 1)) a1.toNatClampNeg) - a3)) hx hb hr (fun t ht hW => ⟨⟨_, ((upd aR ((a1 * 20) + r_47).toNatClampNeg (vp_nar .byte (a2.toInt8.toInt32))), (upd aT a1.toNatClampNeg ((aT a1.toNatClampNeg) + 1))), rfl, hw, by rw [ht]; exact hP9, hD9⟩, hS.F ht⟩) hS.2.2 dAn_tell_72
      · have hw := hw.2 c_26
        refine lv_iconst (v := (-1)) hx hb dAn_tell_29 (by decide) ?_
        have hP9 := hP.sub (ws' := [(h_an, .inr (0, [.ref h_aR, .ref h_aT])), (h_aR, .inl (cB, 4020, .inl aR)), (h_aT, .inl (cI, 201, .inl aT))]) [0, 1, 2] rfl
        have hD9 := hD.sub (ws' := [(h_an, .inr (0, [.ref h_aR, .ref h_aT])), (h_aR, .inl (cB, 4020, .inl aR)), (h_aT, .inl (cI, 201, .inl aT))]) [0, 1, 2] (by decide) rfl
        exact W.iret (v := (-1)) hx hb hr (fun t ht hW => ⟨⟨_, (aR, aT), rfl, hw, by rw [ht]; exact hP9, hD9⟩, hS.F ht⟩) hS.2.2 dAn_tell_30
    · have hw := hw.2 c_10
      refine lv_bipush (v := (-2)) hx hb dAn_tell_13 (by decide +kernel) ?_
      have hP9 := hP.sub (ws' := [(h_an, .inr (0, [.ref h_aR, .ref h_aT])), (h_aR, .inl (cB, 4020, .inl aR)), (h_aT, .inl (cI, 201, .inl aT))]) [0, 1, 2] rfl
      have hD9 := hD.sub (ws' := [(h_an, .inr (0, [.ref h_aR, .ref h_aT])), (h_aR, .inl (cB, 4020, .inl aR)), (h_aT, .inl (cI, 201, .inl aT))]) [0, 1, 2] (by decide) rfl
      exact W.iret (v := (-2)) hx hb hr (fun t ht hW => ⟨⟨_, (aR, aT), rfl, hw, by rw [ht]; exact hP9, hD9⟩, hS.F ht⟩) hS.2.2 dAn_tell_15
def wp_An_waiting (post : Int32 → Prop) (aT : (Nat → Int32)) (a1 : Int32) (a2 : Int32) : Prop := ((a1 < 0 → (post 0)) ∧ (¬ a1 < 0 → ((201 ≤ a1 → (post 0)) ∧ (¬ 201 ≤ a1 → (vp_in a1 201 ∧ (post ((aT a1.toNatClampNeg) - a2)))))))
set_option maxHeartbeats 4000000 in
set_option maxRecDepth 100000 in
theorem met_An_waiting (l : Launch) (dC : Nat → ClassId) (dI : Nat → Nat → Nat) (cI cL cB : ClassId) (h_an h_aR h_aT : Nat) (aT : (Nat → Int32)) (a1 : Int32) (a2 : Int32) (post : Int32 → Prop) (hw : wp_An_waiting post aT a1 a2) : Met l yAn_waiting wsAn_waiting ({ frames := 0, cells := 0, slots := 0, locals := 0 } : Room) (va_Pc [.ref h_an, .int a1, .int a2] (fun U => va_P (dC, dI) vwCl [(h_an, .inr (0, [.ref h_aR, .ref h_aT])), (h_aT, .inl (cI, 201, .inl aT))] U.heap ∧ KK dC dI cI cL cB U)) (ro_i post) 0 0 (fun _ => False) := by
  refine Met.ofW (cc := cAn_waiting) (maxL := 3) (ret := (some .int)) (by decide) rfl ?_
  intro p e s m args below meth c s₁ B hml hv
  obtain ⟨rfl, hP, hK⟩ := hv
  have hx := B.exec
  have hb := B.bytes
  have hr := B.returns
  have hts := atoms_spec (ws := wsAn_waiting) B.pre
  have hown : s.vm.findClass RAn = some m.cls := findClass_of_methodNamed B.named
  have hlocks := B.notSynchronized
  have hS : va_S (fun _ => False) s.heap s.heap [] := va_S.rf
  have htb : ∀ w ∈ TB, w.before _ s = true := fun w h => hts w (List.mem_cons_of_mem _ h)
  have hf_15 := htb _ kw_120
  have hl := lv_entry ([.ref h_an, .int a1, .int a2]) (n := 3) (Nat.le_of_ble_eq_true rfl)
  rw [lg_entry_eq]
  generalize (lg_sl ([.ref h_an, .int a1, .int a2]) ++ List.replicate (3 - (lg_sl ([.ref h_an, .int a1, .int a2])).length) Slot.unset).toArray = ls at hl ⊢
  have hl : lv_has ls 3 [(0, .ref h_an), (1, .int a1), (2, .int a2)] := hl
  unfold wp_An_waiting at hw
  refine lv_iload_n hx hb dAn_waiting_0 rfl (lv_at hl 1 rfl) ?_
  refine lv_if_lt (tgt := 24) hx hb dAn_waiting_1 (by decide) (fun c_1 => ?_) (fun c_1 => ?_)
  · have hw := hw.1 c_1
    refine lv_iconst (v := 0) hx hb dAn_waiting_24 (by decide) ?_
    exact W.iret (v := 0) hx hb hr (fun t ht hW => ⟨_, rfl, hw, ht⟩) (fun q h => absurd h List.not_mem_nil) dAn_waiting_25
  · have hw := hw.2 c_1
    refine lv_iload_n hx hb dAn_waiting_4 rfl (lv_at hl 1 rfl) ?_
    refine lv_aload_n hx hb dAn_waiting_5 rfl (lv_at hl 0 rfl) ?_
    refine va_get (D := (dC, dI)) (ci := 0) (v := .ref h_aT) (C := RAn) (T := TAn) (N := 2) hx hb htb in_An hown hK.1 hP 0 rfl rfl 1 (by decide) hf_15 (fun _ h9 => h9) rfl dAn_waiting_6 ?_
    refine va_alen (v := 201) hx hb hK.1 hP 1 0 rfl rfl (show Int32.ofNat 201 = 201 by decide +kernel) dAn_waiting_9 ?_
    refine lv_icmp_ge (tgt := 24) hx hb dAn_waiting_10 (by decide) (fun c_10 => ?_) (fun c_10 => ?_)
    · have hw := hw.1 c_10
      refine lv_iconst (v := 0) hx hb dAn_waiting_24 (by decide) ?_
      exact W.iret (v := 0) hx hb hr (fun t ht hW => ⟨_, rfl, hw, ht⟩) (fun q h => absurd h List.not_mem_nil) dAn_waiting_25
    · have hw := hw.2 c_10
      refine lv_aload_n hx hb dAn_waiting_13 rfl (lv_at hl 0 rfl) ?_
      refine va_get (D := (dC, dI)) (ci := 0) (v := .ref h_aT) (C := RAn) (T := TAn) (N := 2) hx hb htb in_An hown hK.1 hP 0 rfl rfl 1 (by decide) hf_15 (fun _ h9 => h9) rfl dAn_waiting_14 ?_
      refine lv_iload_n hx hb dAn_waiting_17 rfl (lv_at hl 1 rfl) ?_
      obtain ⟨hin, hw⟩ := hw
      refine va_iald hx hb hK.1 hP 1 0 rfl rfl hin dAn_waiting_18 ?_
      refine lv_iload_n hx hb dAn_waiting_19 rfl (lv_at hl 2 rfl) ?_
      refine lv_isub hx hb dAn_waiting_20 ?_
      refine lv_goto (tgt := 25) hx hb dAn_waiting_21 (by decide) ?_
      exact W.iret (v := ((aT a1.toNatClampNeg) - a2)) hx hb hr (fun t ht hW => ⟨_, rfl, hw, ht⟩) (fun q h => absurd h List.not_mem_nil) dAn_waiting_25
def wp_An_nextOf (post : Int32 → Prop) (aR : (Nat → Int32)) (aT : (Nat → Int32)) (a1 : Int32) (a2 : Int32) : Prop := ((a1 < 0 → (post 0)) ∧ (¬ a1 < 0 → ((a1 < 201 → (wp_Ma_floorMod (fun (r_26 : Int32) => (vp_in ((a1 * 20) + r_26) 4020 ∧ (post (aR ((a1 * 20) + r_26).toNatClampNeg)))) a2 20)) ∧ (¬ a1 < 201 → (post 0)))))
set_option maxHeartbeats 4000000 in
set_option maxRecDepth 100000 in
theorem met_An_nextOf (l : Launch) (dC : Nat → ClassId) (dI : Nat → Nat → Nat) (cI cL cB : ClassId) (h_an h_aR h_aT : Nat) (aR : (Nat → Int32)) (aT : (Nat → Int32)) (a1 : Int32) (a2 : Int32) (post : Int32 → Prop) (hw : wp_An_nextOf post aR aT a1 a2) : Met l yAn_nextOf wsAn_nextOf ({ frames := 1, cells := 0, slots := 0, locals := 22 } : Room) (va_Pc [.ref h_an, .int a1, .int a2] (fun U => va_P (dC, dI) vwCl [(h_an, .inr (0, [.ref h_aR, .ref h_aT])), (h_aR, .inl (cB, 4020, .inl aR)), (h_aT, .inl (cI, 201, .inl aT))] U.heap ∧ KK dC dI cI cL cB U)) (ro_i post) 0 0 (fun _ => False) := by
  refine Met.ofW (cc := cAn_nextOf) (maxL := 3) (ret := (some .int)) (by decide) rfl ?_
  intro p e s m args below meth c s₁ B hml hv
  obtain ⟨rfl, hP, hK⟩ := hv
  have hx := B.exec
  have hb := B.bytes
  have hr := B.returns
  have hts := atoms_spec (ws := wsAn_nextOf) B.pre
  have hown : s.vm.findClass RAn = some m.cls := findClass_of_methodNamed B.named
  have hlocks := B.notSynchronized
  have hS : va_S (fun _ => False) s.heap s.heap [] := va_S.rf
  have htb : ∀ w ∈ TB, w.before _ s = true := fun w h => hts w (List.mem_cons_of_mem _ h)
  have hf_9 := htb _ kw_119
  have hf_15 := htb _ kw_120
  have hl := lv_entry ([.ref h_an, .int a1, .int a2]) (n := 3) (Nat.le_of_ble_eq_true rfl)
  rw [lg_entry_eq]
  generalize (lg_sl ([.ref h_an, .int a1, .int a2]) ++ List.replicate (3 - (lg_sl ([.ref h_an, .int a1, .int a2])).length) Slot.unset).toArray = ls at hl ⊢
  have hl : lv_has ls 3 [(0, .ref h_an), (1, .int a1), (2, .int a2)] := hl
  unfold wp_An_nextOf at hw
  refine lv_iload_n hx hb dAn_nextOf_0 rfl (lv_at hl 1 rfl) ?_
  refine lv_if_lt (tgt := 13) hx hb dAn_nextOf_1 (by decide) (fun c_1 => ?_) (fun c_1 => ?_)
  · have hw := hw.1 c_1
    refine lv_iconst (v := 0) hx hb dAn_nextOf_13 (by decide) ?_
    exact W.iret (v := 0) hx hb hr (fun t ht hW => ⟨_, rfl, hw, ht⟩) (fun q h => absurd h List.not_mem_nil) dAn_nextOf_14
  · have hw := hw.2 c_1
    refine lv_iload_n hx hb dAn_nextOf_4 rfl (lv_at hl 1 rfl) ?_
    refine lv_aload_n hx hb dAn_nextOf_5 rfl (lv_at hl 0 rfl) ?_
    refine va_get (D := (dC, dI)) (ci := 0) (v := .ref h_aT) (C := RAn) (T := TAn) (N := 2) hx hb htb in_An hown hK.1 hP 0 rfl rfl 1 (by decide) hf_15 (fun _ h9 => h9) rfl dAn_nextOf_6 ?_
    refine va_alen (v := 201) hx hb hK.1 hP 2 0 rfl rfl (show Int32.ofNat 201 = 201 by decide +kernel) dAn_nextOf_9 ?_
    refine lv_icmp_lt (tgt := 15) hx hb dAn_nextOf_10 (by decide) (fun c_10 => ?_) (fun c_10 => ?_)
    · have hw := hw.1 c_10
      refine lv_aload_n hx hb dAn_nextOf_15 rfl (lv_at hl 0 rfl) ?_
      refine va_get (D := (dC, dI)) (ci := 0) (v := .ref h_aR) (C := RAn) (T := TAn) (N := 2) hx hb htb in_An hown hK.1 hP 0 rfl rfl 0 (by decide) hf_9 (fun _ h9 => h9) rfl dAn_nextOf_16 ?_
      refine lv_iload_n hx hb dAn_nextOf_19 rfl (lv_at hl 1 rfl) ?_
      refine lv_bipush (v := 20) hx hb dAn_nextOf_20 (by decide +kernel) ?_
      refine lv_imul hx hb dAn_nextOf_22 ?_
      refine lv_iload_n hx hb dAn_nextOf_23 rfl (lv_at hl 2 rfl) ?_
      refine lv_bipush (v := 20) hx hb dAn_nextOf_24 (by decide +kernel) ?_
      refine ro_ci (va_runS (As := [.int a2, .int 20]) (rest := [.int (a1 * 20), .ref h_aR]) ⟨hx, hb, hml, hown, htb⟩ (met_Ma_floorMod l dC dI cI cL cB a2 20 _ hw) (va_cwS 2 htb (gdS kw_372 kw_373 kw_39 kw_374) rfl rfl rfl (by decide +kernel) ⟨Nat.le_of_ble_eq_true rfl, Nat.le_of_ble_eq_true rfl⟩) ⟨fun a U g mk q => by obtain ⟨q0, qP, qK⟩ := q; exact ⟨q0, qP, KK_c qK⟩, fun U hU hW => ⟨rfl, by rw [hU]; exact fun k q h => by simp at h, KK_w hW hK⟩⟩ rfl rfl hl.1 rfl (lv_room (Nat.le_of_ble_eq_true rfl)) dAn_nextOf_26 ⟨Nat.zero_le _, Nat.zero_le _⟩) (fun r_26 hw => ?_)
      try dsimp only at hw
      refine lv_iadd hx hb dAn_nextOf_29 ?_
      obtain ⟨hin, hw⟩ := hw
      refine va_bald hx hb hK.1 hP 1 2 rfl rfl hin dAn_nextOf_30 ?_
      exact W.iret (v := (aR ((a1 * 20) + r_26).toNatClampNeg)) hx hb hr (fun t ht hW => ⟨_, rfl, hw, ht⟩) (fun q h => absurd h List.not_mem_nil) dAn_nextOf_31
    · have hw := hw.2 c_10
      refine lv_iconst (v := 0) hx hb dAn_nextOf_13 (by decide) ?_
      exact W.iret (v := 0) hx hb hr (fun t ht hW => ⟨_, rfl, hw, ht⟩) (fun q h => absurd h List.not_mem_nil) dAn_nextOf_14
