def wp_Nd_kindOf (post : Int32 → Prop) (nd_many : Int32) (nK : (Nat → Int32)) (a1 : Int32) : Prop := ((a1 < 1 → (post (-1))) ∧ (¬ a1 < 1 → ((nd_many < a1 → (post (-1))) ∧ (¬ nd_many < a1 → (vp_in a1 201 ∧ (post (nK a1.toNatClampNeg)))))))
set_option maxHeartbeats 4000000 in
set_option maxRecDepth 100000 in
theorem met_Nd_kindOf (l : Launch) (dC : Nat → ClassId) (dI : Nat → Nat → Nat) (cI cL cB : ClassId) (h_nd h_nK h_nA h_nB h_nZ : Nat) (nd_many : Int32) (nK : (Nat → Int32)) (a1 : Int32) (post : Int32 → Prop) (hw : wp_Nd_kindOf post nd_many nK a1) : Met l yNd_kindOf wsNd_kindOf ({ frames := 0, cells := 0, slots := 0, locals := 0 } : Room) (va_Pc [.ref h_nd, .int a1] (fun U => va_P (dC, dI) vwCl [(h_nd, .inr (3, [.ref h_nK, .ref h_nA, .ref h_nB, .ref h_nZ, .int nd_many])), (h_nK, .inl (cI, 201, .inl nK))] U.heap ∧ KK dC dI cI cL cB U)) (ro_i post) 0 0 (fun _ => False) := by
  refine Met.ofW (cc := cNd_kindOf) (maxL := 2) (ret := (some .int)) (by decide) rfl ?_
  intro p e s m args below meth c s₁ B hml hv
  obtain ⟨rfl, hP, hK⟩ := hv
  have hx := B.exec
  have hb := B.bytes
  have hr := B.returns
  have hts := atoms_spec (ws := wsNd_kindOf) B.pre
  have hown : s.vm.findClass RNd = some m.cls := findClass_of_methodNamed B.named
  have hlocks := B.notSynchronized
  have hS : va_S (fun _ => False) s.heap s.heap [] := va_S.rf
  have htb : ∀ w ∈ TB, w.before _ s = true := fun w h => hts w (List.mem_cons_of_mem _ h)
  have hf_9 := htb _ kw_78
  have hf_42 := htb _ kw_82
  have hl := lv_entry ([.ref h_nd, .int a1]) (n := 2) (Nat.le_of_ble_eq_true rfl)
  rw [lg_entry_eq]
  generalize (lg_sl ([.ref h_nd, .int a1]) ++ List.replicate (2 - (lg_sl ([.ref h_nd, .int a1])).length) Slot.unset).toArray = ls at hl ⊢
  have hl : lv_has ls 2 [(0, .ref h_nd), (1, .int a1)] := hl
  unfold wp_Nd_kindOf at hw
  refine lv_iload_n hx hb dNd_kindOf_0 rfl (lv_at hl 1 rfl) ?_
  refine lv_iconst (v := 1) hx hb dNd_kindOf_1 (by decide) ?_
  refine lv_icmp_lt (tgt := 22) hx hb dNd_kindOf_2 (by decide) (fun c_2 => ?_) (fun c_2 => ?_)
  · have hw := hw.1 c_2
    refine lv_iconst (v := (-1)) hx hb dNd_kindOf_22 (by decide) ?_
    exact W.iret (v := (-1)) hx hb hr (fun t ht hW => ⟨_, rfl, hw, ht⟩) (fun q h => absurd h List.not_mem_nil) dNd_kindOf_23
  · have hw := hw.2 c_2
    refine lv_iload_n hx hb dNd_kindOf_5 rfl (lv_at hl 1 rfl) ?_
    refine lv_aload_n hx hb dNd_kindOf_6 rfl (lv_at hl 0 rfl) ?_
    refine va_get (D := (dC, dI)) (ci := 3) (v := .int nd_many) (C := RNd) (T := TNd) (N := 5) hx hb htb in_Nd hown hK.1 hP 0 rfl rfl 4 (by decide) hf_42 (fun _ h9 => h9) rfl dNd_kindOf_7 ?_
    refine lv_icmp_gt (tgt := 22) hx hb dNd_kindOf_10 (by decide) (fun c_10 => ?_) (fun c_10 => ?_)
    · have hw := hw.1 c_10
      refine lv_iconst (v := (-1)) hx hb dNd_kindOf_22 (by decide) ?_
      exact W.iret (v := (-1)) hx hb hr (fun t ht hW => ⟨_, rfl, hw, ht⟩) (fun q h => absurd h List.not_mem_nil) dNd_kindOf_23
    · have hw := hw.2 c_10
      refine lv_aload_n hx hb dNd_kindOf_13 rfl (lv_at hl 0 rfl) ?_
      refine va_get (D := (dC, dI)) (ci := 3) (v := .ref h_nK) (C := RNd) (T := TNd) (N := 5) hx hb htb in_Nd hown hK.1 hP 0 rfl rfl 0 (by decide) hf_9 (fun _ h9 => h9) rfl dNd_kindOf_14 ?_
      refine lv_iload_n hx hb dNd_kindOf_17 rfl (lv_at hl 1 rfl) ?_
      obtain ⟨hin, hw⟩ := hw
      refine va_iald hx hb hK.1 hP 1 0 rfl rfl hin dNd_kindOf_18 ?_
      refine lv_goto (tgt := 23) hx hb dNd_kindOf_19 (by decide) ?_
      exact W.iret (v := (nK a1.toNatClampNeg)) hx hb hr (fun t ht hW => ⟨_, rfl, hw, ht⟩) (fun q h => absurd h List.not_mem_nil) dNd_kindOf_23
def wp_Nd_aOf (post : Int32 → Prop) (nd_many : Int32) (nA : (Nat → Int32)) (a1 : Int32) : Prop := ((a1 < 1 → (post 0)) ∧ (¬ a1 < 1 → ((nd_many < a1 → (post 0)) ∧ (¬ nd_many < a1 → (vp_in a1 201 ∧ (post (nA a1.toNatClampNeg)))))))
set_option maxHeartbeats 4000000 in
set_option maxRecDepth 100000 in
theorem met_Nd_aOf (l : Launch) (dC : Nat → ClassId) (dI : Nat → Nat → Nat) (cI cL cB : ClassId) (h_nd h_nK h_nA h_nB h_nZ : Nat) (nd_many : Int32) (nA : (Nat → Int32)) (a1 : Int32) (post : Int32 → Prop) (hw : wp_Nd_aOf post nd_many nA a1) : Met l yNd_aOf wsNd_aOf ({ frames := 0, cells := 0, slots := 0, locals := 0 } : Room) (va_Pc [.ref h_nd, .int a1] (fun U => va_P (dC, dI) vwCl [(h_nd, .inr (3, [.ref h_nK, .ref h_nA, .ref h_nB, .ref h_nZ, .int nd_many])), (h_nA, .inl (cI, 201, .inl nA))] U.heap ∧ KK dC dI cI cL cB U)) (ro_i post) 0 0 (fun _ => False) := by
  refine Met.ofW (cc := cNd_aOf) (maxL := 2) (ret := (some .int)) (by decide) rfl ?_
  intro p e s m args below meth c s₁ B hml hv
  obtain ⟨rfl, hP, hK⟩ := hv
  have hx := B.exec
  have hb := B.bytes
  have hr := B.returns
  have hts := atoms_spec (ws := wsNd_aOf) B.pre
  have hown : s.vm.findClass RNd = some m.cls := findClass_of_methodNamed B.named
  have hlocks := B.notSynchronized
  have hS : va_S (fun _ => False) s.heap s.heap [] := va_S.rf
  have htb : ∀ w ∈ TB, w.before _ s = true := fun w h => hts w (List.mem_cons_of_mem _ h)
  have hf_15 := htb _ kw_79
  have hf_42 := htb _ kw_82
  have hl := lv_entry ([.ref h_nd, .int a1]) (n := 2) (Nat.le_of_ble_eq_true rfl)
  rw [lg_entry_eq]
  generalize (lg_sl ([.ref h_nd, .int a1]) ++ List.replicate (2 - (lg_sl ([.ref h_nd, .int a1])).length) Slot.unset).toArray = ls at hl ⊢
  have hl : lv_has ls 2 [(0, .ref h_nd), (1, .int a1)] := hl
  unfold wp_Nd_aOf at hw
  refine lv_iload_n hx hb dNd_aOf_0 rfl (lv_at hl 1 rfl) ?_
  refine lv_iconst (v := 1) hx hb dNd_aOf_1 (by decide) ?_
  refine lv_icmp_lt (tgt := 22) hx hb dNd_aOf_2 (by decide) (fun c_2 => ?_) (fun c_2 => ?_)
  · have hw := hw.1 c_2
    refine lv_iconst (v := 0) hx hb dNd_aOf_22 (by decide) ?_
    exact W.iret (v := 0) hx hb hr (fun t ht hW => ⟨_, rfl, hw, ht⟩) (fun q h => absurd h List.not_mem_nil) dNd_aOf_23
  · have hw := hw.2 c_2
    refine lv_iload_n hx hb dNd_aOf_5 rfl (lv_at hl 1 rfl) ?_
    refine lv_aload_n hx hb dNd_aOf_6 rfl (lv_at hl 0 rfl) ?_
    refine va_get (D := (dC, dI)) (ci := 3) (v := .int nd_many) (C := RNd) (T := TNd) (N := 5) hx hb htb in_Nd hown hK.1 hP 0 rfl rfl 4 (by decide) hf_42 (fun _ h9 => h9) rfl dNd_aOf_7 ?_
    refine lv_icmp_gt (tgt := 22) hx hb dNd_aOf_10 (by decide) (fun c_10 => ?_) (fun c_10 => ?_)
    · have hw := hw.1 c_10
      refine lv_iconst (v := 0) hx hb dNd_aOf_22 (by decide) ?_
      exact W.iret (v := 0) hx hb hr (fun t ht hW => ⟨_, rfl, hw, ht⟩) (fun q h => absurd h List.not_mem_nil) dNd_aOf_23
    · have hw := hw.2 c_10
      refine lv_aload_n hx hb dNd_aOf_13 rfl (lv_at hl 0 rfl) ?_
      refine va_get (D := (dC, dI)) (ci := 3) (v := .ref h_nA) (C := RNd) (T := TNd) (N := 5) hx hb htb in_Nd hown hK.1 hP 0 rfl rfl 1 (by decide) hf_15 (fun _ h9 => h9) rfl dNd_aOf_14 ?_
      refine lv_iload_n hx hb dNd_aOf_17 rfl (lv_at hl 1 rfl) ?_
      obtain ⟨hin, hw⟩ := hw
      refine va_iald hx hb hK.1 hP 1 0 rfl rfl hin dNd_aOf_18 ?_
      refine lv_goto (tgt := 23) hx hb dNd_aOf_19 (by decide) ?_
      exact W.iret (v := (nA a1.toNatClampNeg)) hx hb hr (fun t ht hW => ⟨_, rfl, hw, ht⟩) (fun q h => absurd h List.not_mem_nil) dNd_aOf_23
def wp_Nd_isStatement (post : Int32 → Prop) (nd_many : Int32) (nK : (Nat → Int32)) (a1 : Int32) : Prop := (wp_Nd_kindOf (fun (r_2 : Int32) => ((r_2 < 9 → (post 0)) ∧ (¬ r_2 < 9 → ((r_2 = 13 → (post 0)) ∧ (¬ r_2 = 13 → ((r_2 = 15 → (post 0)) ∧ (¬ r_2 = 15 → ((r_2 = 16 → (post 0)) ∧ (¬ r_2 = 16 → (post 1)))))))))) nd_many nK a1)
set_option maxHeartbeats 4000000 in
set_option maxRecDepth 100000 in
theorem met_Nd_isStatement (l : Launch) (dC : Nat → ClassId) (dI : Nat → Nat → Nat) (cI cL cB : ClassId) (h_nd h_nK h_nA h_nB h_nZ : Nat) (nd_many : Int32) (nK : (Nat → Int32)) (a1 : Int32) (post : Int32 → Prop) (hw : wp_Nd_isStatement post nd_many nK a1) : Met l yNd_isStatement wsNd_isStatement ({ frames := 1, cells := 0, slots := 0, locals := 21 } : Room) (va_Pc [.ref h_nd, .int a1] (fun U => va_P (dC, dI) vwCl [(h_nd, .inr (3, [.ref h_nK, .ref h_nA, .ref h_nB, .ref h_nZ, .int nd_many])), (h_nK, .inl (cI, 201, .inl nK))] U.heap ∧ KK dC dI cI cL cB U)) (ro_i post) 0 0 (fun _ => False) := by
  refine Met.ofW (cc := cNd_isStatement) (maxL := 3) (ret := (some .boolean)) (by decide) rfl ?_
  intro p e s m args below meth c s₁ B hml hv
  obtain ⟨rfl, hP, hK⟩ := hv
  have hx := B.exec
  have hb := B.bytes
  have hr := B.returns
  have hts := atoms_spec (ws := wsNd_isStatement) B.pre
  have hown : s.vm.findClass RNd = some m.cls := findClass_of_methodNamed B.named
  have hlocks := B.notSynchronized
  have hS : va_S (fun _ => False) s.heap s.heap [] := va_S.rf
  have htb : ∀ w ∈ TB, w.before _ s = true := fun w h => hts w (List.mem_cons_of_mem _ h)
  have hl := lv_entry ([.ref h_nd, .int a1]) (n := 3) (Nat.le_of_ble_eq_true rfl)
  rw [lg_entry_eq]
  generalize (lg_sl ([.ref h_nd, .int a1]) ++ List.replicate (3 - (lg_sl ([.ref h_nd, .int a1])).length) Slot.unset).toArray = ls at hl ⊢
  have hl : lv_has ls 3 [(0, .ref h_nd), (1, .int a1)] := hl
  unfold wp_Nd_isStatement at hw
  refine lv_aload_n hx hb dNd_isStatement_0 rfl (lv_at hl 0 rfl) ?_
  refine lv_iload_n hx hb dNd_isStatement_1 rfl (lv_at hl 1 rfl) ?_
  have hPc := hP.sub (ws' := [(h_nd, .inr (3, [.ref h_nK, .ref h_nA, .ref h_nB, .ref h_nZ, .int nd_many])), (h_nK, .inl (cI, 201, .inl nK))]) [0, 1] rfl
  refine ro_ci (va_runV (As := [.int a1]) (rest := []) ⟨hx, hb, hml, hown, htb⟩ (met_Nd_kindOf l dC dI cI cL cB h_nd h_nK h_nA h_nB h_nZ nd_many nK a1 _ hw) (cwV 1 htb (gdV kw_332 kw_333 kw_334 kw_40 kw_335) rfl rfl rfl (by decide +kernel) ⟨Nat.le_of_ble_eq_true rfl, Nat.le_of_ble_eq_true rfl⟩) ⟨fun a U g mk q => by obtain ⟨q0, qP, qK⟩ := q; exact ⟨q0, qP, KK_c qK⟩, va_recv hK.1 hP (ci := 3) (q0 := 0) rfl rfl, fun U hU hW => ⟨rfl, by rw [hU]; exact hPc, KK_w hW hK⟩⟩ rfl rfl hl.1 rfl (lv_room (Nat.le_of_ble_eq_true rfl)) dNd_isStatement_2 ⟨Nat.zero_le _, Nat.zero_le _⟩) (fun r_2 hw => ?_)
  try dsimp only at hw
  refine lv_istore_n (lv' := [(2, .int r_2), (0, .ref h_nd), (1, .int a1)]) hx hb dNd_isStatement_5 rfl hl (by decide) rfl (fun ls hl => ?_)
  refine lv_iload_n hx hb dNd_isStatement_6 rfl (lv_at hl 0 rfl) ?_
  refine lv_bipush (v := 9) hx hb dNd_isStatement_7 (by decide +kernel) ?_
  refine lv_icmp_lt (tgt := 34) hx hb dNd_isStatement_9 (by decide) (fun c_9 => ?_) (fun c_9 => ?_)
  · have hw := hw.1 c_9
    refine lv_iconst (v := 0) hx hb dNd_isStatement_34 (by decide) ?_
    exact W.zret (v := 0) hx hb hr (by decide) (fun t ht hW => ⟨_, rfl, hw, ht⟩) (fun q h => absurd h List.not_mem_nil) dNd_isStatement_35
  · have hw := hw.2 c_9
    refine lv_iload_n hx hb dNd_isStatement_12 rfl (lv_at hl 0 rfl) ?_
    refine lv_bipush (v := 13) hx hb dNd_isStatement_13 (by decide +kernel) ?_
    refine lv_icmp_eq (tgt := 34) hx hb dNd_isStatement_15 (by decide) (fun c_15 => ?_) (fun c_15 => ?_)
    · have hw := hw.1 c_15
      refine lv_iconst (v := 0) hx hb dNd_isStatement_34 (by decide) ?_
      exact W.zret (v := 0) hx hb hr (by decide) (fun t ht hW => ⟨_, rfl, hw, ht⟩) (fun q h => absurd h List.not_mem_nil) dNd_isStatement_35
    · have hw := hw.2 c_15
      refine lv_iload_n hx hb dNd_isStatement_18 rfl (lv_at hl 0 rfl) ?_
      refine lv_bipush (v := 15) hx hb dNd_isStatement_19 (by decide +kernel) ?_
      refine lv_icmp_eq (tgt := 34) hx hb dNd_isStatement_21 (by decide) (fun c_21 => ?_) (fun c_21 => ?_)
      · have hw := hw.1 c_21
        refine lv_iconst (v := 0) hx hb dNd_isStatement_34 (by decide) ?_
        exact W.zret (v := 0) hx hb hr (by decide) (fun t ht hW => ⟨_, rfl, hw, ht⟩) (fun q h => absurd h List.not_mem_nil) dNd_isStatement_35
      · have hw := hw.2 c_21
        refine lv_iload_n hx hb dNd_isStatement_24 rfl (lv_at hl 0 rfl) ?_
        refine lv_bipush (v := 16) hx hb dNd_isStatement_25 (by decide +kernel) ?_
        refine lv_icmp_eq (tgt := 34) hx hb dNd_isStatement_27 (by decide) (fun c_27 => ?_) (fun c_27 => ?_)
        · have hw := hw.1 c_27
          refine lv_iconst (v := 0) hx hb dNd_isStatement_34 (by decide) ?_
          exact W.zret (v := 0) hx hb hr (by decide) (fun t ht hW => ⟨_, rfl, hw, ht⟩) (fun q h => absurd h List.not_mem_nil) dNd_isStatement_35
        · have hw := hw.2 c_27
          refine lv_iconst (v := 1) hx hb dNd_isStatement_30 (by decide) ?_
          refine lv_goto (tgt := 35) hx hb dNd_isStatement_31 (by decide) ?_
          exact W.zret (v := 1) hx hb hr (by decide) (fun t ht hW => ⟨_, rfl, hw, ht⟩) (fun q h => absurd h List.not_mem_nil) dNd_isStatement_35
