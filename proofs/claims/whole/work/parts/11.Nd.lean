def wp_Nd_kindOf (post : Int32 → Prop) (nd_many : Int32) (nK : (Nat → Int32)) (a1 : Int32) : Prop := ((a1 < 1 → (post (-1))) ∧ (¬ a1 < 1 → ((nd_many < a1 → (post (-1))) ∧ (¬ nd_many < a1 → (vp_in a1 201 ∧ (post (nK a1.toNatClampNeg)))))))
set_option maxHeartbeats 4000000 in
set_option maxRecDepth 100000 in
theorem met_Nd_kindOf (l : Launch) (dC : Nat → ClassId) (dI : Nat → Nat → Nat) (cI cL cB : ClassId) (h_nd h_nK h_nA h_nB h_nZ : Nat) (nd_many : Int32) (nK : (Nat → Int32)) (a1 : Int32) (post : Int32 → Prop) (hw : wp_Nd_kindOf post nd_many nK a1) : Met l yNd_kindOf wsNd_kindOf ({ frames := 0, cells := 0, slots := 0, locals := 0 } : Room) (va_Pc [.ref h_nd, .int a1] (fun U => va_P (dC, dI) vwCl [(h_nd, .inr (3, [.ref h_nK, .ref h_nA, .ref h_nB, .ref h_nZ, .int nd_many])), (h_nK, .inl (cI, 201, .inl nK))] U.heap ∧ KK dC dI cI cL cB U)) (ro_i post) 0 0 (fun _ => False) := by
  refine Met.ofW (cc := cNd_kindOf) (maxL := 2) (ret := (some .int)) (by decide) rfl ?_
  intro p e s m args below meth c s₁ B hml hv
  obtain ⟨rfl, hP, hK⟩ := hv
  have hx := B.exec
  have hb := B.bytes
  have hr := B.returns
  have hts := atoms_spec (ws := wsNd_kindOf) B.pre
  have hown : s.vm.findClass RNd = some m.cls := findClass_of_methodNamed B.named
  have hlocks := B.notSynchronized
  have hS : va_S (fun _ => False) s.heap s.heap [] := va_S.rf
  have htb : ∀ w ∈ TB, w.before _ s = true := fun w h => hts w (List.mem_cons_of_mem _ h)
  have hf_9 := htb _ kw_78
  have hf_42 := htb _ kw_82
  have hl := lv_entry ([.ref h_nd, .int a1]) (n := 2) (Nat.le_of_ble_eq_true rfl)
  rw [lg_entry_eq]
  generalize (lg_sl ([.ref h_nd, .int a1]) ++ List.replicate (2 - (lg_sl ([.ref h_nd, .int a1])).length) Slot.unset).toArray = ls at hl ⊢
  have hl : lv_has ls 2 [(0, .ref h_nd), (1, .int a1)] := hl
  unfold wp_Nd_kindOf at hw
  refine lv_iload_n hx hb dNd_kindOf_0 rfl (lv_at hl 1 rfl) ?_
  refine lv_iconst (v := 1) hx hb dNd_kindOf_1 (by decide) ?_
  refine lv_icmp_lt (tgt := 22) hx hb dNd_kindOf_2 (by decide) (fun c_2 => ?_) (fun c_2 => ?_)
  · have hw := hw.1 c_2
    refine lv_iconst (v := (-1)) hx hb dNd_kindOf_22 (by decide) ?_
    exact W.iret (v := (-1)) hx hb hr (fun t ht hW => ⟨_, rfl, hw, ht⟩) (fun q h => absurd h List.not_mem_nil) dNd_kindOf_23
  · have hw := hw.2 c_2
    refine lv_iload_n hx hb dNd_kindOf_5 rfl (lv_at hl 1 rfl) ?_
    refine lv_aload_n hx hb dNd_kindOf_6 rfl (lv_at hl 0 rfl) ?_
    refine va_get (D := (dC, dI)) (ci := 3) (v := .int nd_many) (C := RNd) (T := TNd) (N := 5) hx hb htb in_Nd hown hK.1 hP 0 rfl rfl 4 (by decide) hf_42 (fun _ h9 => h9) rfl dNd_kindOf_7 ?_
    refine lv_icmp_gt (tgt := 22) hx hb dNd_kindOf_10 (by decide) (fun c_10 => ?_) (fun c_10 => ?_)
    · have hw := hw.1 c_10
      refine lv_iconst (v := (-1)) hx hb dNd_kindOf_22 (by decide) ?_
      exact W.iret (v := (-1)) hx hb hr (fun t ht hW => ⟨_, rfl, hw, ht⟩) (fun q h => absurd h List.not_mem_nil) dNd_kindOf_23
    · have hw := hw.2 c_10
      refine lv_aload_n hx hb dNd_kindOf_13 rfl (lv_at hl 0 rfl) ?_
      refine va_get (D := (dC, dI)) (ci := 3) (v := .ref h_nK) (C := RNd) (T := TNd) (N := 5) hx hb htb in_Nd hown hK.1 hP 0 rfl rfl 0 (by decide) hf_9 (fun _ h9 => h9) rfl dNd_kindOf_14 ?_
      refine lv_iload_n hx hb dNd_kindOf_17 rfl (lv_at hl 1 rfl) ?_
      obtain ⟨hin, hw⟩ := hw
      refine va_iald hx hb hK.1 hP 1 0 rfl rfl hin dNd_kindOf_18 ?_
      refine lv_goto (tgt := 23) hx hb dNd_kindOf_19 (by decide) ?_
      exact W.iret (v := (nK a1.toNatClampNeg)) hx hb hr (fun t ht hW => ⟨_, rfl, hw, ht⟩) (fun q h => absurd h List.not_mem_nil) dNd_kindOf_23
def wp_Nd_aOf (post : Int32 → Prop) (nd_many : Int32) (nA : (Nat → Int32)) (a1 : Int32) : Prop := ((a1 < 1 → (post 0)) ∧ (¬ a1 < 1 → ((nd_many < a1 → (post 0)) ∧ (¬ nd_many < a1 → (vp_in a1 201 ∧ (post (nA a1.toNatClampNeg)))))))
set_option maxHeartbeats 4000000 in
set_option maxRecDepth 100000 in
theorem met_Nd_aOf (l : Launch) (dC : Nat → ClassId) (dI : Nat → Nat → Nat) (cI cL cB : ClassId) (h_nd h_nK h_nA h_nB h_nZ : Nat) (nd_many : Int32) (nA : (Nat → Int32)) (a1 : Int32) (post : Int32 → Prop) (hw : wp_Nd_aOf post nd_many nA a1) : Met l yNd_aOf wsNd_aOf ({ frames := 0, cells := 0, slots := 0, locals := 0 } : Room) (va_Pc [.ref h_nd, .int a1] (fun U => va_P (dC, dI) vwCl [(h_nd, .inr (3, [.ref h_nK, .ref h_nA, .ref h_nB, .ref h_nZ, .int nd_many])), (h_nA, .inl (cI, 201, .inl nA))] U.heap ∧ KK dC dI cI cL cB U)) (ro_i post) 0 0 (fun _ => False) := by
  refine Met.ofW (cc := cNd_aOf) (maxL := 2) (ret := (some .int)) (by decide) rfl ?_
  intro p e s m args below meth c s₁ B hml hv
  obtain ⟨rfl, hP, hK⟩ := hv
  have hx := B.exec
  have hb := B.bytes
  have hr := B.returns
  have hts := atoms_spec (ws := wsNd_aOf) B.pre
  have hown : s.vm.findClass RNd = some m.cls := findClass_of_methodNamed B.named
  have hlocks := B.notSynchronized
  have hS : va_S (fun _ => False) s.heap s.heap [] := va_S.rf
  have htb : ∀ w ∈ TB, w.before _ s = true := fun w h => hts w (List.mem_cons_of_mem _ h)
  have hf_15 := htb _ kw_79
  have hf_42 := htb _ kw_82
  have hl := lv_entry ([.ref h_nd, .int a1]) (n := 2) (Nat.le_of_ble_eq_true rfl)
  rw [lg_entry_eq]
  generalize (lg_sl ([.ref h_nd, .int a1]) ++ List.replicate (2 - (lg_sl ([.ref h_nd, .int a1])).length) Slot.unset).toArray = ls at hl ⊢
  have hl : lv_has ls 2 [(0, .ref h_nd), (1, .int a1)] := hl
  unfold wp_Nd_aOf at hw
  refine lv_iload_n hx hb dNd_aOf_0 rfl (lv_at hl 1 rfl) ?_
  refine lv_iconst (v := 1) hx hb dNd_aOf_1 (by decide) ?_
  refine lv_icmp_lt (tgt := 22) hx hb dNd_aOf_2 (by decide) (fun c_2 => ?_) (fun c_2 => ?_)
  · have hw := hw.1 c_2
    refine lv_iconst (v := 0) hx hb dNd_aOf_22 (by decide) ?_
    exact W.iret (v := 0) hx hb hr (fun t ht hW => ⟨_, rfl, hw, ht⟩) (fun q h => absurd h List.not_mem_nil) dNd_aOf_23
  · have hw := hw.2 c_2
    refine lv_iload_n hx hb dNd_aOf_5 rfl (lv_at hl 1 rfl) ?_
    refine lv_aload_n hx hb dNd_aOf_6 rfl (lv_at hl 0 rfl) ?_
    refine va_get (D := (dC, dI)) (ci := 3) (v := .int nd_many) (C := RNd) (T := TNd) (N := 5) hx hb htb in_Nd hown hK.1 hP 0 rfl rfl 4 (by decide) hf_42 (fun _ h9 => h9) rfl dNd_aOf_7 ?_
    refine lv_icmp_gt (tgt := 22) hx hb dNd_aOf_10 (by decide) (fun c_10 => ?_) (fun c_10 => ?_)
    · have hw := hw.1 c_10
      refine lv_iconst (v := 0) hx hb dNd_aOf_22 (by decide) ?_
      exact W.iret (v := 0) hx hb hr (fun t ht hW => ⟨_, rfl, hw, ht⟩) (fun q h => absurd h List.not_mem_nil) dNd_aOf_23
    · have hw := hw.2 c_10
      refine lv_aload_n hx hb dNd_aOf_13 rfl (lv_at hl 0 rfl) ?_
      refine va_get (D := (dC, dI)) (ci := 3) (v := .ref h_nA) (C := RNd) (T := TNd) (N := 5) hx hb htb in_Nd hown hK.1 hP 0 rfl rfl 1 (by decide) hf_15 (fun _ h9 => h9) rfl dNd_aOf_14 ?_
      refine lv_iload_n hx hb dNd_aOf_17 rfl (lv_at hl 1 rfl) ?_
      obtain ⟨hin, hw⟩ := hw
      refine va_iald hx hb hK.1 hP 1 0 rfl rfl hin dNd_aOf_18 ?_
      refine lv_goto (tgt := 23) hx hb dNd_aOf_19 (by decide) ?_
      exact W.iret (v := (nA a1.toNatClampNeg)) hx hb hr (fun t ht hW => ⟨_, rfl, hw, ht⟩) (fun q h => absurd h List.not_mem_nil) dNd_aOf_23
def wp_Nd_bOf (post : Int32 → Prop) (nd_many : Int32) (nB : (Nat → Int32)) (a1 : Int32) : Prop := ((a1 < 1 → (post 0)) ∧ (¬ a1 < 1 → ((nd_many < a1 → (post 0)) ∧ (¬ nd_many < a1 → (vp_in a1 201 ∧ (post (nB a1.toNatClampNeg)))))))
set_option maxHeartbeats 4000000 in
set_option maxRecDepth 100000 in
theorem met_Nd_bOf (l : Launch) (dC : Nat → ClassId) (dI : Nat → Nat → Nat) (cI cL cB : ClassId) (h_nd h_nK h_nA h_nB h_nZ : Nat) (nd_many : Int32) (nB : (Nat → Int32)) (a1 : Int32) (post : Int32 → Prop) (hw : wp_Nd_bOf post nd_many nB a1) : Met l yNd_bOf wsNd_bOf ({ frames := 0, cells := 0, slots := 0, locals := 0 } : Room) (va_Pc [.ref h_nd, .int a1] (fun U => va_P (dC, dI) vwCl [(h_nd, .inr (3, [.ref h_nK, .ref h_nA, .ref h_nB, .ref h_nZ, .int nd_many])), (h_nB, .inl (cI, 201, .inl nB))] U.heap ∧ KK dC dI cI cL cB U)) (ro_i post) 0 0 (fun _ => False) := by
  refine Met.ofW (cc := cNd_bOf) (maxL := 2) (ret := (some .int)) (by decide) rfl ?_
  intro p e s m args below meth c s₁ B hml hv
  obtain ⟨rfl, hP, hK⟩ := hv
  have hx := B.exec
  have hb := B.bytes
  have hr := B.returns
  have hts := atoms_spec (ws := wsNd_bOf) B.pre
  have hown : s.vm.findClass RNd = some m.cls := findClass_of_methodNamed B.named
  have hlocks := B.notSynchronized
  have hS : va_S (fun _ => False) s.heap s.heap [] := va_S.rf
  have htb : ∀ w ∈ TB, w.before _ s = true := fun w h => hts w (List.mem_cons_of_mem _ h)
  have hf_18 := htb _ kw_80
  have hf_42 := htb _ kw_82
  have hl := lv_entry ([.ref h_nd, .int a1]) (n := 2) (Nat.le_of_ble_eq_true rfl)
  rw [lg_entry_eq]
  generalize (lg_sl ([.ref h_nd, .int a1]) ++ List.replicate (2 - (lg_sl ([.ref h_nd, .int a1])).length) Slot.unset).toArray = ls at hl ⊢
  have hl : lv_has ls 2 [(0, .ref h_nd), (1, .int a1)] := hl
  unfold wp_Nd_bOf at hw
  refine lv_iload_n hx hb dNd_bOf_0 rfl (lv_at hl 1 rfl) ?_
  refine lv_iconst (v := 1) hx hb dNd_bOf_1 (by decide) ?_
  refine lv_icmp_lt (tgt := 22) hx hb dNd_bOf_2 (by decide) (fun c_2 => ?_) (fun c_2 => ?_)
  · have hw := hw.1 c_2
    refine lv_iconst (v := 0) hx hb dNd_bOf_22 (by decide) ?_
    exact W.iret (v := 0) hx hb hr (fun t ht hW => ⟨_, rfl, hw, ht⟩) (fun q h => absurd h List.not_mem_nil) dNd_bOf_23
  · have hw := hw.2 c_2
    refine lv_iload_n hx hb dNd_bOf_5 rfl (lv_at hl 1 rfl) ?_
    refine lv_aload_n hx hb dNd_bOf_6 rfl (lv_at hl 0 rfl) ?_
    refine va_get (D := (dC, dI)) (ci := 3) (v := .int nd_many) (C := RNd) (T := TNd) (N := 5) hx hb htb in_Nd hown hK.1 hP 0 rfl rfl 4 (by decide) hf_42 (fun _ h9 => h9) rfl dNd_bOf_7 ?_
    refine lv_icmp_gt (tgt := 22) hx hb dNd_bOf_10 (by decide) (fun c_10 => ?_) (fun c_10 => ?_)
    · have hw := hw.1 c_10
      refine lv_iconst (v := 0) hx hb dNd_bOf_22 (by decide) ?_
      exact W.iret (v := 0) hx hb hr (fun t ht hW => ⟨_, rfl, hw, ht⟩) (fun q h => absurd h List.not_mem_nil) dNd_bOf_23
    · have hw := hw.2 c_10
      refine lv_aload_n hx hb dNd_bOf_13 rfl (lv_at hl 0 rfl) ?_
      refine va_get (D := (dC, dI)) (ci := 3) (v := .ref h_nB) (C := RNd) (T := TNd) (N := 5) hx hb htb in_Nd hown hK.1 hP 0 rfl rfl 2 (by decide) hf_18 (fun _ h9 => h9) rfl dNd_bOf_14 ?_
      refine lv_iload_n hx hb dNd_bOf_17 rfl (lv_at hl 1 rfl) ?_
      obtain ⟨hin, hw⟩ := hw
      refine va_iald hx hb hK.1 hP 1 0 rfl rfl hin dNd_bOf_18 ?_
      refine lv_goto (tgt := 23) hx hb dNd_bOf_19 (by decide) ?_
      exact W.iret (v := (nB a1.toNatClampNeg)) hx hb hr (fun t ht hW => ⟨_, rfl, hw, ht⟩) (fun q h => absurd h List.not_mem_nil) dNd_bOf_23
def wp_Nd_isStatement (post : Int32 → Prop) (nd_many : Int32) (nK : (Nat → Int32)) (a1 : Int32) : Prop := (wp_Nd_kindOf (fun (r_2 : Int32) => ((r_2 < 9 → (post 0)) ∧ (¬ r_2 < 9 → ((r_2 = 13 → (post 0)) ∧ (¬ r_2 = 13 → ((r_2 = 15 → (post 0)) ∧ (¬ r_2 = 15 → ((r_2 = 16 → (post 0)) ∧ (¬ r_2 = 16 → (post 1)))))))))) nd_many nK a1)
set_option maxHeartbeats 4000000 in
set_option maxRecDepth 100000 in
theorem met_Nd_isStatement (l : Launch) (dC : Nat → ClassId) (dI : Nat → Nat → Nat) (cI cL cB : ClassId) (h_nd h_nK h_nA h_nB h_nZ : Nat) (nd_many : Int32) (nK : (Nat → Int32)) (a1 : Int32) (post : Int32 → Prop) (hw : wp_Nd_isStatement post nd_many nK a1) : Met l yNd_isStatement wsNd_isStatement ({ frames := 1, cells := 0, slots := 0, locals := 21 } : Room) (va_Pc [.ref h_nd, .int a1] (fun U => va_P (dC, dI) vwCl [(h_nd, .inr (3, [.ref h_nK, .ref h_nA, .ref h_nB, .ref h_nZ, .int nd_many])), (h_nK, .inl (cI, 201, .inl nK))] U.heap ∧ KK dC dI cI cL cB U)) (ro_i post) 0 0 (fun _ => False) := by
  refine Met.ofW (cc := cNd_isStatement) (maxL := 3) (ret := (some .boolean)) (by decide) rfl ?_
  intro p e s m args below meth c s₁ B hml hv
  obtain ⟨rfl, hP, hK⟩ := hv
  have hx := B.exec
  have hb := B.bytes
  have hr := B.returns
  have hts := atoms_spec (ws := wsNd_isStatement) B.pre
  have hown : s.vm.findClass RNd = some m.cls := findClass_of_methodNamed B.named
  have hlocks := B.notSynchronized
  have hS : va_S (fun _ => False) s.heap s.heap [] := va_S.rf
  have htb : ∀ w ∈ TB, w.before _ s = true := fun w h => hts w (List.mem_cons_of_mem _ h)
  have hl := lv_entry ([.ref h_nd, .int a1]) (n := 3) (Nat.le_of_ble_eq_true rfl)
  rw [lg_entry_eq]
  generalize (lg_sl ([.ref h_nd, .int a1]) ++ List.replicate (3 - (lg_sl ([.ref h_nd, .int a1])).length) Slot.unset).toArray = ls at hl ⊢
  have hl : lv_has ls 3 [(0, .ref h_nd), (1, .int a1)] := hl
  unfold wp_Nd_isStatement at hw
  refine lv_aload_n hx hb dNd_isStatement_0 rfl (lv_at hl 0 rfl) ?_
  refine lv_iload_n hx hb dNd_isStatement_1 rfl (lv_at hl 1 rfl) ?_
  have hPc := hP.sub (ws' := [(h_nd, .inr (3, [.ref h_nK, .ref h_nA, .ref h_nB, .ref h_nZ, .int nd_many])), (h_nK, .inl (cI, 201, .inl nK))]) [0, 1] rfl
  refine ro_ci (va_runV (As := [.int a1]) (rest := []) ⟨hx, hb, hml, hown, htb⟩ (met_Nd_kindOf l dC dI cI cL cB h_nd h_nK h_nA h_nB h_nZ nd_many nK a1 _ hw) (cwV 1 htb (gdV kw_332 kw_333 kw_334 kw_40 kw_335) rfl rfl rfl (by decide +kernel) ⟨Nat.le_of_ble_eq_true rfl, Nat.le_of_ble_eq_true rfl⟩) ⟨fun a U g mk q => by obtain ⟨q0, qP, qK⟩ := q; exact ⟨q0, qP, KK_c qK⟩, va_recv hK.1 hP (ci := 3) (q0 := 0) rfl rfl, fun U hU hW => ⟨rfl, by rw [hU]; exact hPc, KK_w hW hK⟩⟩ rfl rfl hl.1 rfl (lv_room (Nat.le_of_ble_eq_true rfl)) dNd_isStatement_2 ⟨Nat.zero_le _, Nat.zero_le _⟩) (fun r_2 hw => ?_)
  try dsimp only at hw
  refine lv_istore_n (lv' := [(2, .int r_2), (0, .ref h_nd), (1, .int a1)]) hx hb dNd_isStatement_5 rfl hl (by decide) rfl (fun ls hl => ?_)
  refine lv_iload_n hx hb dNd_isStatement_6 rfl (lv_at hl 0 rfl) ?_
  refine lv_bipush (v := 9) hx hb dNd_isStatement_7 (by decide +kernel) ?_
  refine lv_icmp_lt (tgt := 34) hx hb dNd_isStatement_9 (by decide) (fun c_9 => ?_) (fun c_9 => ?_)
  · have hw := hw.1 c_9
    refine lv_iconst (v := 0) hx hb dNd_isStatement_34 (by decide) ?_
    exact W.zret (v := 0) hx hb hr (by decide) (fun t ht hW => ⟨_, rfl, hw, ht⟩) (fun q h => absurd h List.not_mem_nil) dNd_isStatement_35
  · have hw := hw.2 c_9
    refine lv_iload_n hx hb dNd_isStatement_12 rfl (lv_at hl 0 rfl) ?_
    refine lv_bipush (v := 13) hx hb dNd_isStatement_13 (by decide +kernel) ?_
    refine lv_icmp_eq (tgt := 34) hx hb dNd_isStatement_15 (by decide) (fun c_15 => ?_) (fun c_15 => ?_)
    · have hw := hw.1 c_15
      refine lv_iconst (v := 0) hx hb dNd_isStatement_34 (by decide) ?_
      exact W.zret (v := 0) hx hb hr (by decide) (fun t ht hW => ⟨_, rfl, hw, ht⟩) (fun q h => absurd h List.not_mem_nil) dNd_isStatement_35
    · have hw := hw.2 c_15
      refine lv_iload_n hx hb dNd_isStatement_18 rfl (lv_at hl 0 rfl) ?_
      refine lv_bipush (v := 15) hx hb dNd_isStatement_19 (by decide +kernel) ?_
      refine lv_icmp_eq (tgt := 34) hx hb dNd_isStatement_21 (by decide) (fun c_21 => ?_) (fun c_21 => ?_)
      · have hw := hw.1 c_21
        refine lv_iconst (v := 0) hx hb dNd_isStatement_34 (by decide) ?_
        exact W.zret (v := 0) hx hb hr (by decide) (fun t ht hW => ⟨_, rfl, hw, ht⟩) (fun q h => absurd h List.not_mem_nil) dNd_isStatement_35
      · have hw := hw.2 c_21
        refine lv_iload_n hx hb dNd_isStatement_24 rfl (lv_at hl 0 rfl) ?_
        refine lv_bipush (v := 16) hx hb dNd_isStatement_25 (by decide +kernel) ?_
        refine lv_icmp_eq (tgt := 34) hx hb dNd_isStatement_27 (by decide) (fun c_27 => ?_) (fun c_27 => ?_)
        · have hw := hw.1 c_27
          refine lv_iconst (v := 0) hx hb dNd_isStatement_34 (by decide) ?_
          exact W.zret (v := 0) hx hb hr (by decide) (fun t ht hW => ⟨_, rfl, hw, ht⟩) (fun q h => absurd h List.not_mem_nil) dNd_isStatement_35
        · have hw := hw.2 c_27
          refine lv_iconst (v := 1) hx hb dNd_isStatement_30 (by decide) ?_
          refine lv_goto (tgt := 35) hx hb dNd_isStatement_31 (by decide) ?_
          exact W.zret (v := 1) hx hb hr (by decide) (fun t ht hW => ⟨_, rfl, hw, ht⟩) (fun q h => absurd h List.not_mem_nil) dNd_isStatement_35
def wp_Nd_isValue (post : Int32 → Prop) (nd_many : Int32) (nK : (Nat → Int32)) (a1 : Int32) : Prop := (wp_Nd_kindOf (fun (r_2 : Int32) => ((r_2 < 0 → (post 0)) ∧ (¬ r_2 < 0 → ((8 ≤ r_2 → (post 0)) ∧ (¬ 8 ≤ r_2 → (post 1)))))) nd_many nK a1)
set_option maxHeartbeats 4000000 in
set_option maxRecDepth 100000 in
theorem met_Nd_isValue (l : Launch) (dC : Nat → ClassId) (dI : Nat → Nat → Nat) (cI cL cB : ClassId) (h_nd h_nK h_nA h_nB h_nZ : Nat) (nd_many : Int32) (nK : (Nat → Int32)) (a1 : Int32) (post : Int32 → Prop) (hw : wp_Nd_isValue post nd_many nK a1) : Met l yNd_isValue wsNd_isValue ({ frames := 1, cells := 0, slots := 0, locals := 21 } : Room) (va_Pc [.ref h_nd, .int a1] (fun U => va_P (dC, dI) vwCl [(h_nd, .inr (3, [.ref h_nK, .ref h_nA, .ref h_nB, .ref h_nZ, .int nd_many])), (h_nK, .inl (cI, 201, .inl nK))] U.heap ∧ KK dC dI cI cL cB U)) (ro_i post) 0 0 (fun _ => False) := by
  refine Met.ofW (cc := cNd_isValue) (maxL := 3) (ret := (some .boolean)) (by decide) rfl ?_
  intro p e s m args below meth c s₁ B hml hv
  obtain ⟨rfl, hP, hK⟩ := hv
  have hx := B.exec
  have hb := B.bytes
  have hr := B.returns
  have hts := atoms_spec (ws := wsNd_isValue) B.pre
  have hown : s.vm.findClass RNd = some m.cls := findClass_of_methodNamed B.named
  have hlocks := B.notSynchronized
  have hS : va_S (fun _ => False) s.heap s.heap [] := va_S.rf
  have htb : ∀ w ∈ TB, w.before _ s = true := fun w h => hts w (List.mem_cons_of_mem _ h)
  have hl := lv_entry ([.ref h_nd, .int a1]) (n := 3) (Nat.le_of_ble_eq_true rfl)
  rw [lg_entry_eq]
  generalize (lg_sl ([.ref h_nd, .int a1]) ++ List.replicate (3 - (lg_sl ([.ref h_nd, .int a1])).length) Slot.unset).toArray = ls at hl ⊢
  have hl : lv_has ls 3 [(0, .ref h_nd), (1, .int a1)] := hl
  unfold wp_Nd_isValue at hw
  refine lv_aload_n hx hb dNd_isValue_0 rfl (lv_at hl 0 rfl) ?_
  refine lv_iload_n hx hb dNd_isValue_1 rfl (lv_at hl 1 rfl) ?_
  have hPc := hP.sub (ws' := [(h_nd, .inr (3, [.ref h_nK, .ref h_nA, .ref h_nB, .ref h_nZ, .int nd_many])), (h_nK, .inl (cI, 201, .inl nK))]) [0, 1] rfl
  refine ro_ci (va_runV (As := [.int a1]) (rest := []) ⟨hx, hb, hml, hown, htb⟩ (met_Nd_kindOf l dC dI cI cL cB h_nd h_nK h_nA h_nB h_nZ nd_many nK a1 _ hw) (cwV 1 htb (gdV kw_332 kw_333 kw_334 kw_40 kw_335) rfl rfl rfl (by decide +kernel) ⟨Nat.le_of_ble_eq_true rfl, Nat.le_of_ble_eq_true rfl⟩) ⟨fun a U g mk q => by obtain ⟨q0, qP, qK⟩ := q; exact ⟨q0, qP, KK_c qK⟩, va_recv hK.1 hP (ci := 3) (q0 := 0) rfl rfl, fun U hU hW => ⟨rfl, by rw [hU]; exact hPc, KK_w hW hK⟩⟩ rfl rfl hl.1 rfl (lv_room (Nat.le_of_ble_eq_true rfl)) dNd_isValue_2 ⟨Nat.zero_le _, Nat.zero_le _⟩) (fun r_2 hw => ?_)
  try dsimp only at hw
  refine lv_istore_n (lv' := [(2, .int r_2), (0, .ref h_nd), (1, .int a1)]) hx hb dNd_isValue_5 rfl hl (by decide) rfl (fun ls hl => ?_)
  refine lv_iload_n hx hb dNd_isValue_6 rfl (lv_at hl 0 rfl) ?_
  refine lv_if_lt (tgt := 20) hx hb dNd_isValue_7 (by decide) (fun c_7 => ?_) (fun c_7 => ?_)
  · have hw := hw.1 c_7
    refine lv_iconst (v := 0) hx hb dNd_isValue_20 (by decide) ?_
    exact W.zret (v := 0) hx hb hr (by decide) (fun t ht hW => ⟨_, rfl, hw, ht⟩) (fun q h => absurd h List.not_mem_nil) dNd_isValue_21
  · have hw := hw.2 c_7
    refine lv_iload_n hx hb dNd_isValue_10 rfl (lv_at hl 0 rfl) ?_
    refine lv_bipush (v := 8) hx hb dNd_isValue_11 (by decide +kernel) ?_
    refine lv_icmp_ge (tgt := 20) hx hb dNd_isValue_13 (by decide) (fun c_13 => ?_) (fun c_13 => ?_)
    · have hw := hw.1 c_13
      refine lv_iconst (v := 0) hx hb dNd_isValue_20 (by decide) ?_
      exact W.zret (v := 0) hx hb hr (by decide) (fun t ht hW => ⟨_, rfl, hw, ht⟩) (fun q h => absurd h List.not_mem_nil) dNd_isValue_21
    · have hw := hw.2 c_13
      refine lv_iconst (v := 1) hx hb dNd_isValue_16 (by decide) ?_
      refine lv_goto (tgt := 21) hx hb dNd_isValue_17 (by decide) ?_
      exact W.zret (v := 1) hx hb hr (by decide) (fun t ht hW => ⟨_, rfl, hw, ht⟩) (fun q h => absurd h List.not_mem_nil) dNd_isValue_21
def wp_Nd_valueNeededBy (post : Int32 → Prop) (nd_many : Int32) (nK : (Nat → Int32)) (nA : (Nat → Int32)) (nB : (Nat → Int32)) (a1 : Int32) : Prop := (wp_Nd_kindOf (fun (r_2 : Int32) => ((r_2 < 0 → (post 0)) ∧ (¬ r_2 < 0 → ((r_2 ≤ 25 → (vp_in r_2 26 ∧ ((¬ (tNA r_2.toNatClampNeg) = 2 → (vp_in r_2 26 ∧ ((¬ (tNB r_2.toNatClampNeg) = 2 → (post 0)) ∧ ((tNB r_2.toNatClampNeg) = 2 → (wp_Nd_bOf (fun (r_44 : Int32) => (post r_44)) nd_many nB a1))))) ∧ ((tNA r_2.toNatClampNeg) = 2 → (wp_Nd_aOf (fun (r_29 : Int32) => (post r_29)) nd_many nA a1))))) ∧ (¬ r_2 ≤ 25 → (post 0)))))) nd_many nK a1)
set_option maxHeartbeats 4000000 in
set_option maxRecDepth 100000 in
theorem met_Nd_valueNeededBy (l : Launch) (dC : Nat → ClassId) (dI : Nat → Nat → Nat) (cI cL cB : ClassId) (h_nd h_nK h_nA h_nB h_nZ : Nat) (t_NEEDS_OF_A : Nat) (t_NEEDS_OF_B : Nat) (nd_many : Int32) (nK : (Nat → Int32)) (nA : (Nat → Int32)) (nB : (Nat → Int32)) (a1 : Int32) (post : Int32 → Prop) (hw : wp_Nd_valueNeededBy post nd_many nK nA nB a1) : Met l yNd_valueNeededBy wsNd_valueNeededBy ({ frames := 1, cells := 0, slots := 0, locals := 21 } : Room) (va_Pc [.ref h_nd, .int a1] (fun U => va_P (dC, dI) vwCl [(h_nd, .inr (3, [.ref h_nK, .ref h_nA, .ref h_nB, .ref h_nZ, .int nd_many])), (h_nK, .inl (cI, 201, .inl nK)), (h_nA, .inl (cI, 201, .inl nA)), (h_nB, .inl (cI, 201, .inl nB))] U.heap ∧ KK dC dI cI cL cB U ∧ va_Z "ParagraphWalk" "NEEDS_OF_A" "[I" (.ref t_NEEDS_OF_A) (fun _ => False) U U.heap ∧ va_T .int t_NEEDS_OF_A 26 (fun j => .int (tNA j)) (fun _ => False) U U.heap ∧ va_Z "ParagraphWalk" "NEEDS_OF_B" "[I" (.ref t_NEEDS_OF_B) (fun _ => False) U U.heap ∧ va_T .int t_NEEDS_OF_B 26 (fun j => .int (tNB j)) (fun _ => False) U U.heap)) (ro_i post) 0 0 (fun _ => False) := by
  refine Met.ofW (cc := cNd_valueNeededBy) (maxL := 3) (ret := (some .int)) (by decide) rfl ?_
  intro p e s m args below meth c s₁ B hml hv
  obtain ⟨rfl, hP, hK, hZ_NEEDS_OF_A, hT_NEEDS_OF_A, hZ_NEEDS_OF_B, hT_NEEDS_OF_B⟩ := hv
  have hx := B.exec
  have hb := B.bytes
  have hr := B.returns
  have hts := atoms_spec (ws := wsNd_valueNeededBy) B.pre
  have hown : s.vm.findClass RNd = some m.cls := findClass_of_methodNamed B.named
  have hlocks := B.notSynchronized
  have hS : va_S (fun _ => False) s.heap s.heap [] := va_S.rf
  have htb : ∀ w ∈ TB, w.before _ s = true := fun w h => hts w (List.mem_cons_of_mem _ h)
  have hl := lv_entry ([.ref h_nd, .int a1]) (n := 3) (Nat.le_of_ble_eq_true rfl)
  rw [lg_entry_eq]
  generalize (lg_sl ([.ref h_nd, .int a1]) ++ List.replicate (3 - (lg_sl ([.ref h_nd, .int a1])).length) Slot.unset).toArray = ls at hl ⊢
  have hl : lv_has ls 3 [(0, .ref h_nd), (1, .int a1)] := hl
  unfold wp_Nd_valueNeededBy at hw
  refine lv_aload_n hx hb dNd_valueNeededBy_0 rfl (lv_at hl 0 rfl) ?_
  refine lv_iload_n hx hb dNd_valueNeededBy_1 rfl (lv_at hl 1 rfl) ?_
  have hPc := hP.sub (ws' := [(h_nd, .inr (3, [.ref h_nK, .ref h_nA, .ref h_nB, .ref h_nZ, .int nd_many])), (h_nK, .inl (cI, 201, .inl nK))]) [0, 1] rfl
  refine ro_ci (va_runV (As := [.int a1]) (rest := []) ⟨hx, hb, hml, hown, htb⟩ (met_Nd_kindOf l dC dI cI cL cB h_nd h_nK h_nA h_nB h_nZ nd_many nK a1 _ hw) (cwV 1 htb (gdV kw_332 kw_333 kw_334 kw_40 kw_335) rfl rfl rfl (by decide +kernel) ⟨Nat.le_of_ble_eq_true rfl, Nat.le_of_ble_eq_true rfl⟩) ⟨fun a U g mk q => by obtain ⟨q0, qP, qK⟩ := q; exact ⟨q0, qP, KK_c qK⟩, va_recv hK.1 hP (ci := 3) (q0 := 0) rfl rfl, fun U hU hW => ⟨rfl, by rw [hU]; exact hPc, KK_w hW hK⟩⟩ rfl rfl hl.1 rfl (lv_room (Nat.le_of_ble_eq_true rfl)) dNd_valueNeededBy_2 ⟨Nat.zero_le _, Nat.zero_le _⟩) (fun r_2 hw => ?_)
  try dsimp only at hw
  refine lv_istore_n (lv' := [(2, .int r_2), (0, .ref h_nd), (1, .int a1)]) hx hb dNd_valueNeededBy_5 rfl hl (by decide) rfl (fun ls hl => ?_)
  refine lv_iload_n hx hb dNd_valueNeededBy_6 rfl (lv_at hl 0 rfl) ?_
  refine lv_if_lt (tgt := 16) hx hb dNd_valueNeededBy_7 (by decide) (fun c_7 => ?_) (fun c_7 => ?_)
  · have hw := hw.1 c_7
    refine lv_iconst (v := 0) hx hb dNd_valueNeededBy_16 (by decide) ?_
    exact W.iret (v := 0) hx hb hr (fun t ht hW => ⟨_, rfl, hw, ht⟩) (fun q h => absurd h List.not_mem_nil) dNd_valueNeededBy_17
  · have hw := hw.2 c_7
    refine lv_iload_n hx hb dNd_valueNeededBy_10 rfl (lv_at hl 0 rfl) ?_
    refine lv_bipush (v := 25) hx hb dNd_valueNeededBy_11 (by decide +kernel) ?_
    refine lv_icmp_le (tgt := 18) hx hb dNd_valueNeededBy_13 (by decide) (fun c_13 => ?_) (fun c_13 => ?_)
    · have hw := hw.1 c_13
      refine va_getsN hx hb hZ_NEEDS_OF_A hS hown (va_Nw.use rfl (hK.2 _ nw_18)) (fun _ h9 => h9) dNd_valueNeededBy_18 ?_
      refine lv_iload_n hx hb dNd_valueNeededBy_21 rfl (lv_at hl 0 rfl) ?_
      obtain ⟨hin, hw⟩ := hw
      refine va_ti hx hb hT_NEEDS_OF_A hS hin rfl dNd_valueNeededBy_22 ?_
      refine lv_iconst (v := 2) hx hb dNd_valueNeededBy_23 (by decide) ?_
      refine lv_icmp_ne (tgt := 33) hx hb dNd_valueNeededBy_24 (by decide) (fun c_24 => ?_) (fun c_24 => ?_)
      · have hw := hw.1 c_24
        refine va_getsN hx hb hZ_NEEDS_OF_B hS hown (va_Nw.use rfl (hK.2 _ nw_19)) (fun _ h9 => h9) dNd_valueNeededBy_33 ?_
        refine lv_iload_n hx hb dNd_valueNeededBy_36 rfl (lv_at hl 0 rfl) ?_
        obtain ⟨hin, hw⟩ := hw
        refine va_ti hx hb hT_NEEDS_OF_B hS hin rfl dNd_valueNeededBy_37 ?_
        refine lv_iconst (v := 2) hx hb dNd_valueNeededBy_38 (by decide) ?_
        refine lv_icmp_ne (tgt := 50) hx hb dNd_valueNeededBy_39 (by decide) (fun c_39 => ?_) (fun c_39 => ?_)
        · have hw := hw.1 c_39
          refine lv_iconst (v := 0) hx hb dNd_valueNeededBy_50 (by decide) ?_
          exact W.iret (v := 0) hx hb hr (fun t ht hW => ⟨_, rfl, hw, ht⟩) (fun q h => absurd h List.not_mem_nil) dNd_valueNeededBy_51
        · have hw := hw.2 c_39
          refine lv_aload_n hx hb dNd_valueNeededBy_42 rfl (lv_at hl 1 rfl) ?_
          refine lv_iload_n hx hb dNd_valueNeededBy_43 rfl (lv_at hl 2 rfl) ?_
          have hPc := hP.sub (ws' := [(h_nd, .inr (3, [.ref h_nK, .ref h_nA, .ref h_nB, .ref h_nZ, .int nd_many])), (h_nB, .inl (cI, 201, .inl nB))]) [0, 3] rfl
          refine ro_ci (va_runV (As := [.int a1]) (rest := []) ⟨hx, hb, hml, hown, htb⟩ (met_Nd_bOf l dC dI cI cL cB h_nd h_nK h_nA h_nB h_nZ nd_many nB a1 _ hw) (cwV 1 htb (gdV kw_447 kw_427 kw_428 kw_40 kw_429) rfl rfl rfl (by decide +kernel) ⟨Nat.le_of_ble_eq_true rfl, Nat.le_of_ble_eq_true rfl⟩) ⟨fun a U g mk q => by obtain ⟨q0, qP, qK⟩ := q; exact ⟨q0, qP, KK_c qK⟩, va_recv hK.1 hP (ci := 3) (q0 := 0) rfl rfl, fun U hU hW => ⟨rfl, by rw [hU]; exact hPc, KK_w hW hK⟩⟩ rfl rfl hl.1 rfl (lv_room (Nat.le_of_ble_eq_true rfl)) dNd_valueNeededBy_44 ⟨Nat.zero_le _, Nat.zero_le _⟩) (fun r_44 hw => ?_)
          try dsimp only at hw
          refine lv_goto (tgt := 51) hx hb dNd_valueNeededBy_47 (by decide) ?_
          exact W.iret (v := r_44) hx hb hr (fun t ht hW => ⟨_, rfl, hw, ht⟩) (fun q h => absurd h List.not_mem_nil) dNd_valueNeededBy_51
      · have hw := hw.2 c_24
        refine lv_aload_n hx hb dNd_valueNeededBy_27 rfl (lv_at hl 1 rfl) ?_
        refine lv_iload_n hx hb dNd_valueNeededBy_28 rfl (lv_at hl 2 rfl) ?_
        have hPc := hP.sub (ws' := [(h_nd, .inr (3, [.ref h_nK, .ref h_nA, .ref h_nB, .ref h_nZ, .int nd_many])), (h_nA, .inl (cI, 201, .inl nA))]) [0, 2] rfl
        refine ro_ci (va_runV (As := [.int a1]) (rest := []) ⟨hx, hb, hml, hown, htb⟩ (met_Nd_aOf l dC dI cI cL cB h_nd h_nK h_nA h_nB h_nZ nd_many nA a1 _ hw) (cwV 1 htb (gdV kw_446 kw_431 kw_432 kw_40 kw_433) rfl rfl rfl (by decide +kernel) ⟨Nat.le_of_ble_eq_true rfl, Nat.le_of_ble_eq_true rfl⟩) ⟨fun a U g mk q => by obtain ⟨q0, qP, qK⟩ := q; exact ⟨q0, qP, KK_c qK⟩, va_recv hK.1 hP (ci := 3) (q0 := 0) rfl rfl, fun U hU hW => ⟨rfl, by rw [hU]; exact hPc, KK_w hW hK⟩⟩ rfl rfl hl.1 rfl (lv_room (Nat.le_of_ble_eq_true rfl)) dNd_valueNeededBy_29 ⟨Nat.zero_le _, Nat.zero_le _⟩) (fun r_29 hw => ?_)
        try dsimp only at hw
        exact W.iret (v := r_29) hx hb hr (fun t ht hW => ⟨_, rfl, hw, ht⟩) (fun q h => absurd h List.not_mem_nil) dNd_valueNeededBy_32
    · have hw := hw.2 c_13
      refine lv_iconst (v := 0) hx hb dNd_valueNeededBy_16 (by decide) ?_
      exact W.iret (v := 0) hx hb hr (fun t ht hW => ⟨_, rfl, hw, ht⟩) (fun q h => absurd h List.not_mem_nil) dNd_valueNeededBy_17
def wp_Nd_meets (post : Int32 → Prop) (nd_many : Int32) (nK : (Nat → Int32)) (a1 : Int32) (a2 : Int32) (a3 : Int32) : Prop := ((a1 = 1 → ((a2 < 0 → (post 0)) ∧ (¬ a2 < 0 → ((a3 ≤ a2 → (post 0)) ∧ (¬ a3 ≤ a2 → (post 1)))))) ∧ (a1 = 2 → (wp_Nd_isValue (fun (r_69 : Int32) => ((r_69 = 0 ∨ r_69 = 1) ∧ post r_69)) nd_many nK a2)) ∧ (a1 = 3 → (wp_Nd_isStatement (fun (r_75 : Int32) => ((r_75 = 0 ∨ r_75 = 1) ∧ post r_75)) nd_many nK a2)) ∧ (a1 = 4 → (wp_Nd_kindOf (fun (r_81 : Int32) => ((¬ r_81 = 13 → (post 0)) ∧ (r_81 = 13 → (post 1)))) nd_many nK a2)) ∧ (a1 = 5 → (wp_Nd_kindOf (fun (r_97 : Int32) => ((¬ r_97 = 15 → (post 0)) ∧ (r_97 = 15 → (post 1)))) nd_many nK a2)) ∧ (a1 = 6 → ((a2 = 0 → (post 1)) ∧ (¬ a2 = 0 → (wp_Nd_kindOf (fun (r_117 : Int32) => ((¬ r_117 = 15 → (post 0)) ∧ (r_117 = 15 → (post 1)))) nd_many nK a2)))) ∧ (a1 = 7 → (wp_Nd_kindOf (fun (r_133 : Int32) => ((¬ r_133 = 16 → (post 0)) ∧ (r_133 = 16 → (post 1)))) nd_many nK a2)) ∧ (a1 = 8 → ((a2 = 0 → (post 1)) ∧ (¬ a2 = 0 → (wp_Nd_isValue (fun (r_153 : Int32) => ((¬ r_153 = 0 → (post 1)) ∧ (r_153 = 0 → (wp_Nd_kindOf (fun (r_161 : Int32) => ((¬ r_161 = 8 → (post 0)) ∧ (r_161 = 8 → (post 1)))) nd_many nK a2)))) nd_many nK a2)))) ∧ (a1 = 9 → ((a2 = 0 → (post 1)) ∧ (¬ a2 = 0 → (wp_Nd_isStatement (fun (r_181 : Int32) => ((r_181 = 0 → (post 0)) ∧ (¬ r_181 = 0 → (post 1)))) nd_many nK a2)))) ∧ (¬ a1 = 1 ∧ ¬ a1 = 2 ∧ ¬ a1 = 3 ∧ ¬ a1 = 4 ∧ ¬ a1 = 5 ∧ ¬ a1 = 6 ∧ ¬ a1 = 7 ∧ ¬ a1 = 8 ∧ ¬ a1 = 9 → (post 1)))
set_option maxHeartbeats 4000000 in
set_option maxRecDepth 100000 in
theorem met_Nd_meets (l : Launch) (dC : Nat → ClassId) (dI : Nat → Nat → Nat) (cI cL cB : ClassId) (h_nd h_nK h_nA h_nB h_nZ : Nat) (nd_many : Int32) (nK : (Nat → Int32)) (a1 : Int32) (a2 : Int32) (a3 : Int32) (post : Int32 → Prop) (hw : wp_Nd_meets post nd_many nK a1 a2 a3) : Met l yNd_meets wsNd_meets ({ frames := 2, cells := 0, slots := 0, locals := 43 } : Room) (va_Pc [.ref h_nd, .int a1, .int a2, .int a3] (fun U => va_P (dC, dI) vwCl [(h_nd, .inr (3, [.ref h_nK, .ref h_nA, .ref h_nB, .ref h_nZ, .int nd_many])), (h_nK, .inl (cI, 201, .inl nK))] U.heap ∧ KK dC dI cI cL cB U)) (ro_i post) 0 0 (fun _ => False) := by
  refine Met.ofW (cc := cNd_meets) (maxL := 4) (ret := (some .boolean)) (by decide) rfl ?_
  intro p e s m args below meth c s₁ B hml hv
  obtain ⟨rfl, hP, hK⟩ := hv
  have hx := B.exec
  have hb := B.bytes
  have hr := B.returns
  have hts := atoms_spec (ws := wsNd_meets) B.pre
  have hown : s.vm.findClass RNd = some m.cls := findClass_of_methodNamed B.named
  have hlocks := B.notSynchronized
  have hS : va_S (fun _ => False) s.heap s.heap [] := va_S.rf
  have htb : ∀ w ∈ TB, w.before _ s = true := fun w h => hts w (List.mem_cons_of_mem _ h)
  have hl := lv_entry ([.ref h_nd, .int a1, .int a2, .int a3]) (n := 4) (Nat.le_of_ble_eq_true rfl)
  rw [lg_entry_eq]
  generalize (lg_sl ([.ref h_nd, .int a1, .int a2, .int a3]) ++ List.replicate (4 - (lg_sl ([.ref h_nd, .int a1, .int a2, .int a3])).length) Slot.unset).toArray = ls at hl ⊢
  have hl : lv_has ls 4 [(0, .ref h_nd), (1, .int a1), (2, .int a2), (3, .int a3)] := hl
  unfold wp_Nd_meets at hw
  refine lv_iload_n hx hb dNd_meets_0 rfl (lv_at hl 1 rfl) ?_
  by_cases c_1_1 : a1 = 1
  · have hw := hw.1 c_1_1
    refine lv_tableIn (off := 51) (tgt := 52) hx hb dNd_meets_1 (by rw [c_1_1]; decide) (by rw [c_1_1]; decide) (by rw [c_1_1]; rfl) (by decide) ?_
    refine lv_iload_n hx hb dNd_meets_52 rfl (lv_at hl 2 rfl) ?_
    refine lv_if_lt (tgt := 65) hx hb dNd_meets_53 (by decide) (fun c_53 => ?_) (fun c_53 => ?_)
    · have hw := hw.1 c_53
      refine lv_iconst (v := 0) hx hb dNd_meets_65 (by decide) ?_
      exact W.zret (v := 0) hx hb hr (by decide) (fun t ht hW => ⟨_, rfl, hw, ht⟩) (fun q h => absurd h List.not_mem_nil) dNd_meets_66
    · have hw := hw.2 c_53
      refine lv_iload_n hx hb dNd_meets_56 rfl (lv_at hl 2 rfl) ?_
      refine lv_iload_n hx hb dNd_meets_57 rfl (lv_at hl 3 rfl) ?_
      refine lv_icmp_ge (tgt := 65) hx hb dNd_meets_58 (by decide) (fun c_58 => ?_) (fun c_58 => ?_)
      · have hw := hw.1 c_58
        refine lv_iconst (v := 0) hx hb dNd_meets_65 (by decide) ?_
        exact W.zret (v := 0) hx hb hr (by decide) (fun t ht hW => ⟨_, rfl, hw, ht⟩) (fun q h => absurd h List.not_mem_nil) dNd_meets_66
      · have hw := hw.2 c_58
        refine lv_iconst (v := 1) hx hb dNd_meets_61 (by decide) ?_
        refine lv_goto (tgt := 66) hx hb dNd_meets_62 (by decide) ?_
        exact W.zret (v := 1) hx hb hr (by decide) (fun t ht hW => ⟨_, rfl, hw, ht⟩) (fun q h => absurd h List.not_mem_nil) dNd_meets_66
  have hw := hw.2
  by_cases c_1_2 : a1 = 2
  · have hw := hw.1 c_1_2
    refine lv_tableIn (off := 66) (tgt := 67) hx hb dNd_meets_1 (by rw [c_1_2]; decide) (by rw [c_1_2]; decide) (by rw [c_1_2]; rfl) (by decide) ?_
    refine lv_aload_n hx hb dNd_meets_67 rfl (lv_at hl 0 rfl) ?_
    refine lv_iload_n hx hb dNd_meets_68 rfl (lv_at hl 2 rfl) ?_
    have hPc := hP.sub (ws' := [(h_nd, .inr (3, [.ref h_nK, .ref h_nA, .ref h_nB, .ref h_nZ, .int nd_many])), (h_nK, .inl (cI, 201, .inl nK))]) [0, 1] rfl
    refine ro_ci (va_runV (As := [.int a2]) (rest := []) ⟨hx, hb, hml, hown, htb⟩ (met_Nd_isValue l dC dI cI cL cB h_nd h_nK h_nA h_nB h_nZ nd_many nK a2 _ hw) (cwV 1 htb (gdV kw_328 kw_330 kw_1 kw_40 kw_331) rfl rfl rfl (by decide +kernel) ⟨Nat.le_of_ble_eq_true rfl, Nat.le_of_ble_eq_true rfl⟩) ⟨fun a U g mk q => by obtain ⟨q0, qP, qK⟩ := q; exact ⟨q0, qP, KK_c qK⟩, va_recv hK.1 hP (ci := 3) (q0 := 0) rfl rfl, fun U hU hW => ⟨rfl, by rw [hU]; exact hPc, KK_w hW hK⟩⟩ rfl rfl hl.1 rfl (lv_room (Nat.le_of_ble_eq_true rfl)) dNd_meets_69 ⟨Nat.zero_le _, Nat.zero_le _⟩) (fun r_69 hw => ?_)
    try dsimp only at hw
    obtain ⟨hbz, hw⟩ := hw
    exact W.zret (v := r_69) hx hb hr (bz_nar hbz) (fun t ht hW => ⟨_, rfl, hw, ht⟩) (fun q h => absurd h List.not_mem_nil) dNd_meets_72
  have hw := hw.2
  by_cases c_1_3 : a1 = 3
  · have hw := hw.1 c_1_3
    refine lv_tableIn (off := 72) (tgt := 73) hx hb dNd_meets_1 (by rw [c_1_3]; decide) (by rw [c_1_3]; decide) (by rw [c_1_3]; rfl) (by decide) ?_
    refine lv_aload_n hx hb dNd_meets_73 rfl (lv_at hl 0 rfl) ?_
    refine lv_iload_n hx hb dNd_meets_74 rfl (lv_at hl 2 rfl) ?_
    have hPc := hP.sub (ws' := [(h_nd, .inr (3, [.ref h_nK, .ref h_nA, .ref h_nB, .ref h_nZ, .int nd_many])), (h_nK, .inl (cI, 201, .inl nK))]) [0, 1] rfl
    refine ro_ci (va_runV (As := [.int a2]) (rest := []) ⟨hx, hb, hml, hown, htb⟩ (met_Nd_isStatement l dC dI cI cL cB h_nd h_nK h_nA h_nB h_nZ nd_many nK a2 _ hw) (cwV 1 htb (gdV kw_336 kw_337 kw_338 kw_40 kw_339) rfl rfl rfl (by decide +kernel) ⟨Nat.le_of_ble_eq_true rfl, Nat.le_of_ble_eq_true rfl⟩) ⟨fun a U g mk q => by obtain ⟨q0, qP, qK⟩ := q; exact ⟨q0, qP, KK_c qK⟩, va_recv hK.1 hP (ci := 3) (q0 := 0) rfl rfl, fun U hU hW => ⟨rfl, by rw [hU]; exact hPc, KK_w hW hK⟩⟩ rfl rfl hl.1 rfl (lv_room (Nat.le_of_ble_eq_true rfl)) dNd_meets_75 ⟨Nat.zero_le _, Nat.zero_le _⟩) (fun r_75 hw => ?_)
    try dsimp only at hw
    obtain ⟨hbz, hw⟩ := hw
    exact W.zret (v := r_75) hx hb hr (bz_nar hbz) (fun t ht hW => ⟨_, rfl, hw, ht⟩) (fun q h => absurd h List.not_mem_nil) dNd_meets_78
  have hw := hw.2
  by_cases c_1_4 : a1 = 4
  · have hw := hw.1 c_1_4
    refine lv_tableIn (off := 78) (tgt := 79) hx hb dNd_meets_1 (by rw [c_1_4]; decide) (by rw [c_1_4]; decide) (by rw [c_1_4]; rfl) (by decide) ?_
    refine lv_aload_n hx hb dNd_meets_79 rfl (lv_at hl 0 rfl) ?_
    refine lv_iload_n hx hb dNd_meets_80 rfl (lv_at hl 2 rfl) ?_
    have hPc := hP.sub (ws' := [(h_nd, .inr (3, [.ref h_nK, .ref h_nA, .ref h_nB, .ref h_nZ, .int nd_many])), (h_nK, .inl (cI, 201, .inl nK))]) [0, 1] rfl
    refine ro_ci (va_runV (As := [.int a2]) (rest := []) ⟨hx, hb, hml, hown, htb⟩ (met_Nd_kindOf l dC dI cI cL cB h_nd h_nK h_nA h_nB h_nZ nd_many nK a2 _ hw) (cwV 1 htb (gdV kw_332 kw_333 kw_334 kw_40 kw_335) rfl rfl rfl (by decide +kernel) ⟨Nat.le_of_ble_eq_true rfl, Nat.le_of_ble_eq_true rfl⟩) ⟨fun a U g mk q => by obtain ⟨q0, qP, qK⟩ := q; exact ⟨q0, qP, KK_c qK⟩, va_recv hK.1 hP (ci := 3) (q0 := 0) rfl rfl, fun U hU hW => ⟨rfl, by rw [hU]; exact hPc, KK_w hW hK⟩⟩ rfl rfl hl.1 rfl (lv_room (Nat.le_of_ble_eq_true rfl)) dNd_meets_81 ⟨Nat.zero_le _, Nat.zero_le _⟩) (fun r_81 hw => ?_)
    try dsimp only at hw
    refine lv_bipush (v := 13) hx hb dNd_meets_84 (by decide +kernel) ?_
    refine lv_icmp_ne (tgt := 93) hx hb dNd_meets_86 (by decide) (fun c_86 => ?_) (fun c_86 => ?_)
    · have hw := hw.1 c_86
      refine lv_iconst (v := 0) hx hb dNd_meets_93 (by decide) ?_
      exact W.zret (v := 0) hx hb hr (by decide) (fun t ht hW => ⟨_, rfl, hw, ht⟩) (fun q h => absurd h List.not_mem_nil) dNd_meets_94
    · have hw := hw.2 c_86
      refine lv_iconst (v := 1) hx hb dNd_meets_89 (by decide) ?_
      refine lv_goto (tgt := 94) hx hb dNd_meets_90 (by decide) ?_
      exact W.zret (v := 1) hx hb hr (by decide) (fun t ht hW => ⟨_, rfl, hw, ht⟩) (fun q h => absurd h List.not_mem_nil) dNd_meets_94
  have hw := hw.2
  by_cases c_1_5 : a1 = 5
  · have hw := hw.1 c_1_5
    refine lv_tableIn (off := 94) (tgt := 95) hx hb dNd_meets_1 (by rw [c_1_5]; decide) (by rw [c_1_5]; decide) (by rw [c_1_5]; rfl) (by decide) ?_
    refine lv_aload_n hx hb dNd_meets_95 rfl (lv_at hl 0 rfl) ?_
    refine lv_iload_n hx hb dNd_meets_96 rfl (lv_at hl 2 rfl) ?_
    have hPc := hP.sub (ws' := [(h_nd, .inr (3, [.ref h_nK, .ref h_nA, .ref h_nB, .ref h_nZ, .int nd_many])), (h_nK, .inl (cI, 201, .inl nK))]) [0, 1] rfl
    refine ro_ci (va_runV (As := [.int a2]) (rest := []) ⟨hx, hb, hml, hown, htb⟩ (met_Nd_kindOf l dC dI cI cL cB h_nd h_nK h_nA h_nB h_nZ nd_many nK a2 _ hw) (cwV 1 htb (gdV kw_332 kw_333 kw_334 kw_40 kw_335) rfl rfl rfl (by decide +kernel) ⟨Nat.le_of_ble_eq_true rfl, Nat.le_of_ble_eq_true rfl⟩) ⟨fun a U g mk q => by obtain ⟨q0, qP, qK⟩ := q; exact ⟨q0, qP, KK_c qK⟩, va_recv hK.1 hP (ci := 3) (q0 := 0) rfl rfl, fun U hU hW => ⟨rfl, by rw [hU]; exact hPc, KK_w hW hK⟩⟩ rfl rfl hl.1 rfl (lv_room (Nat.le_of_ble_eq_true rfl)) dNd_meets_97 ⟨Nat.zero_le _, Nat.zero_le _⟩) (fun r_97 hw => ?_)
    try dsimp only at hw
    refine lv_bipush (v := 15) hx hb dNd_meets_100 (by decide +kernel) ?_
    refine lv_icmp_ne (tgt := 109) hx hb dNd_meets_102 (by decide) (fun c_102 => ?_) (fun c_102 => ?_)
    · have hw := hw.1 c_102
      refine lv_iconst (v := 0) hx hb dNd_meets_109 (by decide) ?_
      exact W.zret (v := 0) hx hb hr (by decide) (fun t ht hW => ⟨_, rfl, hw, ht⟩) (fun q h => absurd h List.not_mem_nil) dNd_meets_110
    · have hw := hw.2 c_102
      refine lv_iconst (v := 1) hx hb dNd_meets_105 (by decide) ?_
      refine lv_goto (tgt := 110) hx hb dNd_meets_106 (by decide) ?_
      exact W.zret (v := 1) hx hb hr (by decide) (fun t ht hW => ⟨_, rfl, hw, ht⟩) (fun q h => absurd h List.not_mem_nil) dNd_meets_110
  have hw := hw.2
  by_cases c_1_6 : a1 = 6
  · have hw := hw.1 c_1_6
    refine lv_tableIn (off := 110) (tgt := 111) hx hb dNd_meets_1 (by rw [c_1_6]; decide) (by rw [c_1_6]; decide) (by rw [c_1_6]; rfl) (by decide) ?_
    refine lv_iload_n hx hb dNd_meets_111 rfl (lv_at hl 2 rfl) ?_
    refine lv_if_eq (tgt := 125) hx hb dNd_meets_112 (by decide) (fun c_112 => ?_) (fun c_112 => ?_)
    · have hw := hw.1 c_112
      refine lv_iconst (v := 1) hx hb dNd_meets_125 (by decide) ?_
      refine lv_goto (tgt := 130) hx hb dNd_meets_126 (by decide) ?_
      exact W.zret (v := 1) hx hb hr (by decide) (fun t ht hW => ⟨_, rfl, hw, ht⟩) (fun q h => absurd h List.not_mem_nil) dNd_meets_130
    · have hw := hw.2 c_112
      refine lv_aload_n hx hb dNd_meets_115 rfl (lv_at hl 0 rfl) ?_
      refine lv_iload_n hx hb dNd_meets_116 rfl (lv_at hl 2 rfl) ?_
      have hPc := hP.sub (ws' := [(h_nd, .inr (3, [.ref h_nK, .ref h_nA, .ref h_nB, .ref h_nZ, .int nd_many])), (h_nK, .inl (cI, 201, .inl nK))]) [0, 1] rfl
      refine ro_ci (va_runV (As := [.int a2]) (rest := []) ⟨hx, hb, hml, hown, htb⟩ (met_Nd_kindOf l dC dI cI cL cB h_nd h_nK h_nA h_nB h_nZ nd_many nK a2 _ hw) (cwV 1 htb (gdV kw_332 kw_333 kw_334 kw_40 kw_335) rfl rfl rfl (by decide +kernel) ⟨Nat.le_of_ble_eq_true rfl, Nat.le_of_ble_eq_true rfl⟩) ⟨fun a U g mk q => by obtain ⟨q0, qP, qK⟩ := q; exact ⟨q0, qP, KK_c qK⟩, va_recv hK.1 hP (ci := 3) (q0 := 0) rfl rfl, fun U hU hW => ⟨rfl, by rw [hU]; exact hPc, KK_w hW hK⟩⟩ rfl rfl hl.1 rfl (lv_room (Nat.le_of_ble_eq_true rfl)) dNd_meets_117 ⟨Nat.zero_le _, Nat.zero_le _⟩) (fun r_117 hw => ?_)
      try dsimp only at hw
      refine lv_bipush (v := 15) hx hb dNd_meets_120 (by decide +kernel) ?_
      refine lv_icmp_ne (tgt := 129) hx hb dNd_meets_122 (by decide) (fun c_122 => ?_) (fun c_122 => ?_)
      · have hw := hw.1 c_122
        refine lv_iconst (v := 0) hx hb dNd_meets_129 (by decide) ?_
        exact W.zret (v := 0) hx hb hr (by decide) (fun t ht hW => ⟨_, rfl, hw, ht⟩) (fun q h => absurd h List.not_mem_nil) dNd_meets_130
      · have hw := hw.2 c_122
        refine lv_iconst (v := 1) hx hb dNd_meets_125 (by decide) ?_
        refine lv_goto (tgt := 130) hx hb dNd_meets_126 (by decide) ?_
        exact W.zret (v := 1) hx hb hr (by decide) (fun t ht hW => ⟨_, rfl, hw, ht⟩) (fun q h => absurd h List.not_mem_nil) dNd_meets_130
  have hw := hw.2
  by_cases c_1_7 : a1 = 7
  · have hw := hw.1 c_1_7
    refine lv_tableIn (off := 130) (tgt := 131) hx hb dNd_meets_1 (by rw [c_1_7]; decide) (by rw [c_1_7]; decide) (by rw [c_1_7]; rfl) (by decide) ?_
    refine lv_aload_n hx hb dNd_meets_131 rfl (lv_at hl 0 rfl) ?_
    refine lv_iload_n hx hb dNd_meets_132 rfl (lv_at hl 2 rfl) ?_
    have hPc := hP.sub (ws' := [(h_nd, .inr (3, [.ref h_nK, .ref h_nA, .ref h_nB, .ref h_nZ, .int nd_many])), (h_nK, .inl (cI, 201, .inl nK))]) [0, 1] rfl
    refine ro_ci (va_runV (As := [.int a2]) (rest := []) ⟨hx, hb, hml, hown, htb⟩ (met_Nd_kindOf l dC dI cI cL cB h_nd h_nK h_nA h_nB h_nZ nd_many nK a2 _ hw) (cwV 1 htb (gdV kw_332 kw_333 kw_334 kw_40 kw_335) rfl rfl rfl (by decide +kernel) ⟨Nat.le_of_ble_eq_true rfl, Nat.le_of_ble_eq_true rfl⟩) ⟨fun a U g mk q => by obtain ⟨q0, qP, qK⟩ := q; exact ⟨q0, qP, KK_c qK⟩, va_recv hK.1 hP (ci := 3) (q0 := 0) rfl rfl, fun U hU hW => ⟨rfl, by rw [hU]; exact hPc, KK_w hW hK⟩⟩ rfl rfl hl.1 rfl (lv_room (Nat.le_of_ble_eq_true rfl)) dNd_meets_133 ⟨Nat.zero_le _, Nat.zero_le _⟩) (fun r_133 hw => ?_)
    try dsimp only at hw
    refine lv_bipush (v := 16) hx hb dNd_meets_136 (by decide +kernel) ?_
    refine lv_icmp_ne (tgt := 145) hx hb dNd_meets_138 (by decide) (fun c_138 => ?_) (fun c_138 => ?_)
    · have hw := hw.1 c_138
      refine lv_iconst (v := 0) hx hb dNd_meets_145 (by decide) ?_
      exact W.zret (v := 0) hx hb hr (by decide) (fun t ht hW => ⟨_, rfl, hw, ht⟩) (fun q h => absurd h List.not_mem_nil) dNd_meets_146
    · have hw := hw.2 c_138
      refine lv_iconst (v := 1) hx hb dNd_meets_141 (by decide) ?_
      refine lv_goto (tgt := 146) hx hb dNd_meets_142 (by decide) ?_
      exact W.zret (v := 1) hx hb hr (by decide) (fun t ht hW => ⟨_, rfl, hw, ht⟩) (fun q h => absurd h List.not_mem_nil) dNd_meets_146
  have hw := hw.2
  by_cases c_1_8 : a1 = 8
  · have hw := hw.1 c_1_8
    refine lv_tableIn (off := 146) (tgt := 147) hx hb dNd_meets_1 (by rw [c_1_8]; decide) (by rw [c_1_8]; decide) (by rw [c_1_8]; rfl) (by decide) ?_
    refine lv_iload_n hx hb dNd_meets_147 rfl (lv_at hl 2 rfl) ?_
    refine lv_if_eq (tgt := 169) hx hb dNd_meets_148 (by decide) (fun c_148 => ?_) (fun c_148 => ?_)
    · have hw := hw.1 c_148
      refine lv_iconst (v := 1) hx hb dNd_meets_169 (by decide) ?_
      refine lv_goto (tgt := 174) hx hb dNd_meets_170 (by decide) ?_
      exact W.zret (v := 1) hx hb hr (by decide) (fun t ht hW => ⟨_, rfl, hw, ht⟩) (fun q h => absurd h List.not_mem_nil) dNd_meets_174
    · have hw := hw.2 c_148
      refine lv_aload_n hx hb dNd_meets_151 rfl (lv_at hl 0 rfl) ?_
      refine lv_iload_n hx hb dNd_meets_152 rfl (lv_at hl 2 rfl) ?_
      have hPc := hP.sub (ws' := [(h_nd, .inr (3, [.ref h_nK, .ref h_nA, .ref h_nB, .ref h_nZ, .int nd_many])), (h_nK, .inl (cI, 201, .inl nK))]) [0, 1] rfl
      refine ro_ci (va_runV (As := [.int a2]) (rest := []) ⟨hx, hb, hml, hown, htb⟩ (met_Nd_isValue l dC dI cI cL cB h_nd h_nK h_nA h_nB h_nZ nd_many nK a2 _ hw) (cwV 1 htb (gdV kw_328 kw_330 kw_1 kw_40 kw_331) rfl rfl rfl (by decide +kernel) ⟨Nat.le_of_ble_eq_true rfl, Nat.le_of_ble_eq_true rfl⟩) ⟨fun a U g mk q => by obtain ⟨q0, qP, qK⟩ := q; exact ⟨q0, qP, KK_c qK⟩, va_recv hK.1 hP (ci := 3) (q0 := 0) rfl rfl, fun U hU hW => ⟨rfl, by rw [hU]; exact hPc, KK_w hW hK⟩⟩ rfl rfl hl.1 rfl (lv_room (Nat.le_of_ble_eq_true rfl)) dNd_meets_153 ⟨Nat.zero_le _, Nat.zero_le _⟩) (fun r_153 hw => ?_)
      try dsimp only at hw
      refine lv_if_ne (tgt := 169) hx hb dNd_meets_156 (by decide) (fun c_156 => ?_) (fun c_156 => ?_)
      · have hw := hw.1 c_156
        refine lv_iconst (v := 1) hx hb dNd_meets_169 (by decide) ?_
        refine lv_goto (tgt := 174) hx hb dNd_meets_170 (by decide) ?_
        exact W.zret (v := 1) hx hb hr (by decide) (fun t ht hW => ⟨_, rfl, hw, ht⟩) (fun q h => absurd h List.not_mem_nil) dNd_meets_174
      · have hw := hw.2 c_156
        refine lv_aload_n hx hb dNd_meets_159 rfl (lv_at hl 0 rfl) ?_
        refine lv_iload_n hx hb dNd_meets_160 rfl (lv_at hl 2 rfl) ?_
        have hPc := hP.sub (ws' := [(h_nd, .inr (3, [.ref h_nK, .ref h_nA, .ref h_nB, .ref h_nZ, .int nd_many])), (h_nK, .inl (cI, 201, .inl nK))]) [0, 1] rfl
        refine ro_ci (va_runV (As := [.int a2]) (rest := []) ⟨hx, hb, hml, hown, htb⟩ (met_Nd_kindOf l dC dI cI cL cB h_nd h_nK h_nA h_nB h_nZ nd_many nK a2 _ hw) (cwV 1 htb (gdV kw_332 kw_333 kw_334 kw_40 kw_335) rfl rfl rfl (by decide +kernel) ⟨Nat.le_of_ble_eq_true rfl, Nat.le_of_ble_eq_true rfl⟩) ⟨fun a U g mk q => by obtain ⟨q0, qP, qK⟩ := q; exact ⟨q0, qP, KK_c qK⟩, va_recv hK.1 hP (ci := 3) (q0 := 0) rfl rfl, fun U hU hW => ⟨rfl, by rw [hU]; exact hPc, KK_w hW hK⟩⟩ rfl rfl hl.1 rfl (lv_room (Nat.le_of_ble_eq_true rfl)) dNd_meets_161 ⟨Nat.zero_le _, Nat.zero_le _⟩) (fun r_161 hw => ?_)
        try dsimp only at hw
        refine lv_bipush (v := 8) hx hb dNd_meets_164 (by decide +kernel) ?_
        refine lv_icmp_ne (tgt := 173) hx hb dNd_meets_166 (by decide) (fun c_166 => ?_) (fun c_166 => ?_)
        · have hw := hw.1 c_166
          refine lv_iconst (v := 0) hx hb dNd_meets_173 (by decide) ?_
          exact W.zret (v := 0) hx hb hr (by decide) (fun t ht hW => ⟨_, rfl, hw, ht⟩) (fun q h => absurd h List.not_mem_nil) dNd_meets_174
        · have hw := hw.2 c_166
          refine lv_iconst (v := 1) hx hb dNd_meets_169 (by decide) ?_
          refine lv_goto (tgt := 174) hx hb dNd_meets_170 (by decide) ?_
          exact W.zret (v := 1) hx hb hr (by decide) (fun t ht hW => ⟨_, rfl, hw, ht⟩) (fun q h => absurd h List.not_mem_nil) dNd_meets_174
  have hw := hw.2
  by_cases c_1_9 : a1 = 9
  · have hw := hw.1 c_1_9
    refine lv_tableIn (off := 174) (tgt := 175) hx hb dNd_meets_1 (by rw [c_1_9]; decide) (by rw [c_1_9]; decide) (by rw [c_1_9]; rfl) (by decide) ?_
    refine lv_iload_n hx hb dNd_meets_175 rfl (lv_at hl 2 rfl) ?_
    refine lv_if_eq (tgt := 187) hx hb dNd_meets_176 (by decide) (fun c_176 => ?_) (fun c_176 => ?_)
    · have hw := hw.1 c_176
      refine lv_iconst (v := 1) hx hb dNd_meets_187 (by decide) ?_
      refine lv_goto (tgt := 192) hx hb dNd_meets_188 (by decide) ?_
      exact W.zret (v := 1) hx hb hr (by decide) (fun t ht hW => ⟨_, rfl, hw, ht⟩) (fun q h => absurd h List.not_mem_nil) dNd_meets_192
    · have hw := hw.2 c_176
      refine lv_aload_n hx hb dNd_meets_179 rfl (lv_at hl 0 rfl) ?_
      refine lv_iload_n hx hb dNd_meets_180 rfl (lv_at hl 2 rfl) ?_
      have hPc := hP.sub (ws' := [(h_nd, .inr (3, [.ref h_nK, .ref h_nA, .ref h_nB, .ref h_nZ, .int nd_many])), (h_nK, .inl (cI, 201, .inl nK))]) [0, 1] rfl
      refine ro_ci (va_runV (As := [.int a2]) (rest := []) ⟨hx, hb, hml, hown, htb⟩ (met_Nd_isStatement l dC dI cI cL cB h_nd h_nK h_nA h_nB h_nZ nd_many nK a2 _ hw) (cwV 1 htb (gdV kw_336 kw_337 kw_338 kw_40 kw_339) rfl rfl rfl (by decide +kernel) ⟨Nat.le_of_ble_eq_true rfl, Nat.le_of_ble_eq_true rfl⟩) ⟨fun a U g mk q => by obtain ⟨q0, qP, qK⟩ := q; exact ⟨q0, qP, KK_c qK⟩, va_recv hK.1 hP (ci := 3) (q0 := 0) rfl rfl, fun U hU hW => ⟨rfl, by rw [hU]; exact hPc, KK_w hW hK⟩⟩ rfl rfl hl.1 rfl (lv_room (Nat.le_of_ble_eq_true rfl)) dNd_meets_181 ⟨Nat.zero_le _, Nat.zero_le _⟩) (fun r_181 hw => ?_)
      try dsimp only at hw
      refine lv_if_eq (tgt := 191) hx hb dNd_meets_184 (by decide) (fun c_184 => ?_) (fun c_184 => ?_)
      · have hw := hw.1 c_184
        refine lv_iconst (v := 0) hx hb dNd_meets_191 (by decide) ?_
        exact W.zret (v := 0) hx hb hr (by decide) (fun t ht hW => ⟨_, rfl, hw, ht⟩) (fun q h => absurd h List.not_mem_nil) dNd_meets_192
      · have hw := hw.2 c_184
        refine lv_iconst (v := 1) hx hb dNd_meets_187 (by decide) ?_
        refine lv_goto (tgt := 192) hx hb dNd_meets_188 (by decide) ?_
        exact W.zret (v := 1) hx hb hr (by decide) (fun t ht hW => ⟨_, rfl, hw, ht⟩) (fun q h => absurd h List.not_mem_nil) dNd_meets_192
  have hw := hw.2
  have hw := hw ⟨c_1_1, c_1_2, c_1_3, c_1_4, c_1_5, c_1_6, c_1_7, c_1_8, c_1_9⟩
  refine lv_tabD (tgt := 193) hx hb dNd_meets_1 (by have n_1 := lv_neT c_1_1 (show (1 : Int32).toInt = 1 by decide +kernel); have n_2 := lv_neT c_1_2 (show (2 : Int32).toInt = 2 by decide +kernel); have n_3 := lv_neT c_1_3 (show (3 : Int32).toInt = 3 by decide +kernel); have n_4 := lv_neT c_1_4 (show (4 : Int32).toInt = 4 by decide +kernel); have n_5 := lv_neT c_1_5 (show (5 : Int32).toInt = 5 by decide +kernel); have n_6 := lv_neT c_1_6 (show (6 : Int32).toInt = 6 by decide +kernel); have n_7 := lv_neT c_1_7 (show (7 : Int32).toInt = 7 by decide +kernel); have n_8 := lv_neT c_1_8 (show (8 : Int32).toInt = 8 by decide +kernel); have n_9 := lv_neT c_1_9 (show (9 : Int32).toInt = 9 by decide +kernel); rcases (show a1.toInt < 1 ∨ 9 < a1.toInt by omega) with hc | hc <;> first | exact Or.inl hc | exact Or.inr (Or.inl hc) | (refine Or.inr (Or.inr ?_); rw [hc]; rfl)) (by decide) ?_
  refine lv_iconst (v := 1) hx hb dNd_meets_193 (by decide) ?_
  exact W.zret (v := 1) hx hb hr (by decide) (fun t ht hW => ⟨_, rfl, hw, ht⟩) (fun q h => absurd h List.not_mem_nil) dNd_meets_194
def wp_Nd_isTargetSo (post : Int32 → Prop) (a1 : Int32) (a2 : Int32) : Prop := ((a1 = 17 → ((a2 < 1 → (post 0)) ∧ (¬ a2 < 1 → ((30 < a2 → (post 0)) ∧ (¬ 30 < a2 → (post 1)))))) ∧ (¬ a1 = 17 → ((¬ a1 = 18 → ((¬ a1 = 19 → (post 1)) ∧ (a1 = 19 → ((a2 = 0 → (post 1)) ∧ (¬ a2 = 0 → ((¬ a2 = 1 → (post 0)) ∧ (a2 = 1 → (post 1)))))))) ∧ (a1 = 18 → ((a2 < 1 → (post 0)) ∧ (¬ a2 < 1 → ((30 < a2 → (post 0)) ∧ (¬ 30 < a2 → (post 1)))))))))
set_option maxHeartbeats 4000000 in
set_option maxRecDepth 100000 in
theorem met_Nd_isTargetSo (l : Launch) (dC : Nat → ClassId) (dI : Nat → Nat → Nat) (cI cL cB : ClassId) (h_nd : Nat) (a1 : Int32) (a2 : Int32) (post : Int32 → Prop) (hw : wp_Nd_isTargetSo post a1 a2) : Met l yNd_isTargetSo wsNd_isTargetSo ({ frames := 0, cells := 0, slots := 0, locals := 0 } : Room) (va_Pc [.ref h_nd, .int a1, .int a2] (fun U => va_P (dC, dI) vwCl [] U.heap ∧ KK dC dI cI cL cB U)) (ro_i post) 0 0 (fun _ => False) := by
  refine Met.ofW (cc := cNd_isTargetSo) (maxL := 3) (ret := (some .boolean)) (by decide) rfl ?_
  intro p e s m args below meth c s₁ B hml hv
  obtain ⟨rfl, hP, hK⟩ := hv
  have hx := B.exec
  have hb := B.bytes
  have hr := B.returns
  have hts := atoms_spec (ws := wsNd_isTargetSo) B.pre
  have hown : s.vm.findClass RNd = some m.cls := findClass_of_methodNamed B.named
  have hlocks := B.notSynchronized
  have hS : va_S (fun _ => False) s.heap s.heap [] := va_S.rf
  have htb : ∀ w ∈ TB, w.before _ s = true := fun w h => hts w (List.mem_cons_of_mem _ h)
  have hl := lv_entry ([.ref h_nd, .int a1, .int a2]) (n := 3) (Nat.le_of_ble_eq_true rfl)
  rw [lg_entry_eq]
  generalize (lg_sl ([.ref h_nd, .int a1, .int a2]) ++ List.replicate (3 - (lg_sl ([.ref h_nd, .int a1, .int a2])).length) Slot.unset).toArray = ls at hl ⊢
  have hl : lv_has ls 3 [(0, .ref h_nd), (1, .int a1), (2, .int a2)] := hl
  unfold wp_Nd_isTargetSo at hw
  refine lv_iload_n hx hb dNd_isTargetSo_0 rfl (lv_at hl 1 rfl) ?_
  refine lv_bipush (v := 17) hx hb dNd_isTargetSo_1 (by decide +kernel) ?_
  refine lv_icmp_eq (tgt := 12) hx hb dNd_isTargetSo_3 (by decide) (fun c_3 => ?_) (fun c_3 => ?_)
  · have hw := hw.1 c_3
    refine lv_iload_n hx hb dNd_isTargetSo_12 rfl (lv_at hl 2 rfl) ?_
    refine lv_iconst (v := 1) hx hb dNd_isTargetSo_13 (by decide) ?_
    refine lv_icmp_lt (tgt := 27) hx hb dNd_isTargetSo_14 (by decide) (fun c_14 => ?_) (fun c_14 => ?_)
    · have hw := hw.1 c_14
      refine lv_iconst (v := 0) hx hb dNd_isTargetSo_27 (by decide) ?_
      exact W.zret (v := 0) hx hb hr (by decide) (fun t ht hW => ⟨_, rfl, hw, ht⟩) (fun q h => absurd h List.not_mem_nil) dNd_isTargetSo_28
    · have hw := hw.2 c_14
      refine lv_iload_n hx hb dNd_isTargetSo_17 rfl (lv_at hl 2 rfl) ?_
      refine lv_bipush (v := 30) hx hb dNd_isTargetSo_18 (by decide +kernel) ?_
      refine lv_icmp_gt (tgt := 27) hx hb dNd_isTargetSo_20 (by decide) (fun c_20 => ?_) (fun c_20 => ?_)
      · have hw := hw.1 c_20
        refine lv_iconst (v := 0) hx hb dNd_isTargetSo_27 (by decide) ?_
        exact W.zret (v := 0) hx hb hr (by decide) (fun t ht hW => ⟨_, rfl, hw, ht⟩) (fun q h => absurd h List.not_mem_nil) dNd_isTargetSo_28
      · have hw := hw.2 c_20
        refine lv_iconst (v := 1) hx hb dNd_isTargetSo_23 (by decide) ?_
        refine lv_goto (tgt := 28) hx hb dNd_isTargetSo_24 (by decide) ?_
        exact W.zret (v := 1) hx hb hr (by decide) (fun t ht hW => ⟨_, rfl, hw, ht⟩) (fun q h => absurd h List.not_mem_nil) dNd_isTargetSo_28
  · have hw := hw.2 c_3
    refine lv_iload_n hx hb dNd_isTargetSo_6 rfl (lv_at hl 1 rfl) ?_
    refine lv_bipush (v := 18) hx hb dNd_isTargetSo_7 (by decide +kernel) ?_
    refine lv_icmp_ne (tgt := 29) hx hb dNd_isTargetSo_9 (by decide) (fun c_9 => ?_) (fun c_9 => ?_)
    · have hw := hw.1 c_9
      refine lv_iload_n hx hb dNd_isTargetSo_29 rfl (lv_at hl 1 rfl) ?_
      refine lv_bipush (v := 19) hx hb dNd_isTargetSo_30 (by decide +kernel) ?_
      refine lv_icmp_ne (tgt := 44) hx hb dNd_isTargetSo_32 (by decide) (fun c_32 => ?_) (fun c_32 => ?_)
      · have hw := hw.1 c_32
        refine lv_iconst (v := 1) hx hb dNd_isTargetSo_44 (by decide) ?_
        refine lv_goto (tgt := 49) hx hb dNd_isTargetSo_45 (by decide) ?_
        exact W.zret (v := 1) hx hb hr (by decide) (fun t ht hW => ⟨_, rfl, hw, ht⟩) (fun q h => absurd h List.not_mem_nil) dNd_isTargetSo_49
      · have hw := hw.2 c_32
        refine lv_iload_n hx hb dNd_isTargetSo_35 rfl (lv_at hl 2 rfl) ?_
        refine lv_if_eq (tgt := 44) hx hb dNd_isTargetSo_36 (by decide) (fun c_36 => ?_) (fun c_36 => ?_)
        · have hw := hw.1 c_36
          refine lv_iconst (v := 1) hx hb dNd_isTargetSo_44 (by decide) ?_
          refine lv_goto (tgt := 49) hx hb dNd_isTargetSo_45 (by decide) ?_
          exact W.zret (v := 1) hx hb hr (by decide) (fun t ht hW => ⟨_, rfl, hw, ht⟩) (fun q h => absurd h List.not_mem_nil) dNd_isTargetSo_49
        · have hw := hw.2 c_36
          refine lv_iload_n hx hb dNd_isTargetSo_39 rfl (lv_at hl 2 rfl) ?_
          refine lv_iconst (v := 1) hx hb dNd_isTargetSo_40 (by decide) ?_
          refine lv_icmp_ne (tgt := 48) hx hb dNd_isTargetSo_41 (by decide) (fun c_41 => ?_) (fun c_41 => ?_)
          · have hw := hw.1 c_41
            refine lv_iconst (v := 0) hx hb dNd_isTargetSo_48 (by decide) ?_
            exact W.zret (v := 0) hx hb hr (by decide) (fun t ht hW => ⟨_, rfl, hw, ht⟩) (fun q h => absurd h List.not_mem_nil) dNd_isTargetSo_49
          · have hw := hw.2 c_41
            refine lv_iconst (v := 1) hx hb dNd_isTargetSo_44 (by decide) ?_
            refine lv_goto (tgt := 49) hx hb dNd_isTargetSo_45 (by decide) ?_
            exact W.zret (v := 1) hx hb hr (by decide) (fun t ht hW => ⟨_, rfl, hw, ht⟩) (fun q h => absurd h List.not_mem_nil) dNd_isTargetSo_49
    · have hw := hw.2 c_9
      refine lv_iload_n hx hb dNd_isTargetSo_12 rfl (lv_at hl 2 rfl) ?_
      refine lv_iconst (v := 1) hx hb dNd_isTargetSo_13 (by decide) ?_
      refine lv_icmp_lt (tgt := 27) hx hb dNd_isTargetSo_14 (by decide) (fun c_14 => ?_) (fun c_14 => ?_)
      · have hw := hw.1 c_14
        refine lv_iconst (v := 0) hx hb dNd_isTargetSo_27 (by decide) ?_
        exact W.zret (v := 0) hx hb hr (by decide) (fun t ht hW => ⟨_, rfl, hw, ht⟩) (fun q h => absurd h List.not_mem_nil) dNd_isTargetSo_28
      · have hw := hw.2 c_14
        refine lv_iload_n hx hb dNd_isTargetSo_17 rfl (lv_at hl 2 rfl) ?_
        refine lv_bipush (v := 30) hx hb dNd_isTargetSo_18 (by decide +kernel) ?_
        refine lv_icmp_gt (tgt := 27) hx hb dNd_isTargetSo_20 (by decide) (fun c_20 => ?_) (fun c_20 => ?_)
        · have hw := hw.1 c_20
          refine lv_iconst (v := 0) hx hb dNd_isTargetSo_27 (by decide) ?_
          exact W.zret (v := 0) hx hb hr (by decide) (fun t ht hW => ⟨_, rfl, hw, ht⟩) (fun q h => absurd h List.not_mem_nil) dNd_isTargetSo_28
        · have hw := hw.2 c_20
          refine lv_iconst (v := 1) hx hb dNd_isTargetSo_23 (by decide) ?_
          refine lv_goto (tgt := 28) hx hb dNd_isTargetSo_24 (by decide) ?_
          exact W.zret (v := 1) hx hb hr (by decide) (fun t ht hW => ⟨_, rfl, hw, ht⟩) (fun q h => absurd h List.not_mem_nil) dNd_isTargetSo_28
def wp_Nd_sizeWith (post : Int32 → Prop) (nd_many : Int32) (nK : (Nat → Int32)) (nZ : (Nat → Int32)) (a1 : Int32) (a2 : Int32) (a3 : Int32) : Prop := ((a1 < 2 → (((0 : Int32) = 0 → (post 1)) ∧ (¬ (0 : Int32) = 0 → (wp_Nd_isValue (fun (r_25 : Int32) => ((r_25 = 0 → (post 1)) ∧ (¬ r_25 = 0 → (wp_Nd_isValue (fun (r_33 : Int32) => ((r_33 = 0 → (post 1)) ∧ (¬ r_33 = 0 → (vp_in a2 201 ∧ (vp_in a3 201 ∧ (post ((1 + (nZ a2.toNatClampNeg)) + (nZ a3.toNatClampNeg)))))))) nd_many nK a3)))) nd_many nK a2)))) ∧ (¬ a1 < 2 → ((7 < a1 → (((0 : Int32) = 0 → (post 1)) ∧ (¬ (0 : Int32) = 0 → (wp_Nd_isValue (fun (r_25 : Int32) => ((r_25 = 0 → (post 1)) ∧ (¬ r_25 = 0 → (wp_Nd_isValue (fun (r_33 : Int32) => ((r_33 = 0 → (post 1)) ∧ (¬ r_33 = 0 → (vp_in a2 201 ∧ (vp_in a3 201 ∧ (post ((1 + (nZ a2.toNatClampNeg)) + (nZ a3.toNatClampNeg)))))))) nd_many nK a3)))) nd_many nK a2)))) ∧ (¬ 7 < a1 → (((1 : Int32) = 0 → (post 1)) ∧ (¬ (1 : Int32) = 0 → (wp_Nd_isValue (fun (r_25 : Int32) => ((r_25 = 0 → (post 1)) ∧ (¬ r_25 = 0 → (wp_Nd_isValue (fun (r_33 : Int32) => ((r_33 = 0 → (post 1)) ∧ (¬ r_33 = 0 → (vp_in a2 201 ∧ (vp_in a3 201 ∧ (post ((1 + (nZ a2.toNatClampNeg)) + (nZ a3.toNatClampNeg)))))))) nd_many nK a3)))) nd_many nK a2)))))))
set_option maxHeartbeats 4000000 in
set_option maxRecDepth 100000 in
theorem met_Nd_sizeWith (l : Launch) (dC : Nat → ClassId) (dI : Nat → Nat → Nat) (cI cL cB : ClassId) (h_nd h_nK h_nA h_nB h_nZ : Nat) (nd_many : Int32) (nK : (Nat → Int32)) (nZ : (Nat → Int32)) (a1 : Int32) (a2 : Int32) (a3 : Int32) (post : Int32 → Prop) (hw : wp_Nd_sizeWith post nd_many nK nZ a1 a2 a3) : Met l yNd_sizeWith wsNd_sizeWith ({ frames := 2, cells := 0, slots := 0, locals := 43 } : Room) (va_Pc [.ref h_nd, .int a1, .int a2, .int a3] (fun U => va_P (dC, dI) vwCl [(h_nd, .inr (3, [.ref h_nK, .ref h_nA, .ref h_nB, .ref h_nZ, .int nd_many])), (h_nK, .inl (cI, 201, .inl nK)), (h_nZ, .inl (cI, 201, .inl nZ))] U.heap ∧ KK dC dI cI cL cB U)) (ro_i post) 0 0 (fun _ => False) := by
  refine Met.ofW (cc := cNd_sizeWith) (maxL := 5) (ret := (some .int)) (by decide) rfl ?_
  intro p e s m args below meth c s₁ B hml hv
  obtain ⟨rfl, hP, hK⟩ := hv
  have hx := B.exec
  have hb := B.bytes
  have hr := B.returns
  have hts := atoms_spec (ws := wsNd_sizeWith) B.pre
  have hown : s.vm.findClass RNd = some m.cls := findClass_of_methodNamed B.named
  have hlocks := B.notSynchronized
  have hS : va_S (fun _ => False) s.heap s.heap [] := va_S.rf
  have htb : ∀ w ∈ TB, w.before _ s = true := fun w h => hts w (List.mem_cons_of_mem _ h)
  have hf_21 := htb _ kw_81
  have hl := lv_entry ([.ref h_nd, .int a1, .int a2, .int a3]) (n := 5) (Nat.le_of_ble_eq_true rfl)
  rw [lg_entry_eq]
  generalize (lg_sl ([.ref h_nd, .int a1, .int a2, .int a3]) ++ List.replicate (5 - (lg_sl ([.ref h_nd, .int a1, .int a2, .int a3])).length) Slot.unset).toArray = ls at hl ⊢
  have hl : lv_has ls 5 [(0, .ref h_nd), (1, .int a1), (2, .int a2), (3, .int a3)] := hl
  unfold wp_Nd_sizeWith at hw
  refine lv_iload_n hx hb dNd_sizeWith_0 rfl (lv_at hl 1 rfl) ?_
  refine lv_iconst (v := 2) hx hb dNd_sizeWith_1 (by decide) ?_
  refine lv_icmp_lt (tgt := 15) hx hb dNd_sizeWith_2 (by decide) (fun c_2 => ?_) (fun c_2 => ?_)
  · have hw := hw.1 c_2
    refine lv_iconst (v := 0) hx hb dNd_sizeWith_15 (by decide) ?_
    refine lv_istore (lv' := [(4, .int 0), (0, .ref h_nd), (1, .int a1), (2, .int a2), (3, .int a3)]) hx hb dNd_sizeWith_16 hl (by decide) rfl (fun ls hl => ?_)
    refine lv_iload hx hb dNd_sizeWith_18 (lv_at hl 0 rfl) ?_
    refine lv_if_eq (tgt := 57) hx hb dNd_sizeWith_20 (by decide) (fun c_20 => ?_) (fun c_20 => ?_)
    · have hw := hw.1 c_20
      refine lv_iconst (v := 1) hx hb dNd_sizeWith_57 (by decide) ?_
      exact W.iret (v := 1) hx hb hr (fun t ht hW => ⟨_, rfl, hw, ht⟩) (fun q h => absurd h List.not_mem_nil) dNd_sizeWith_58
    · have hw := hw.2 c_20
      refine lv_aload_n hx hb dNd_sizeWith_23 rfl (lv_at hl 1 rfl) ?_
      refine lv_iload_n hx hb dNd_sizeWith_24 rfl (lv_at hl 3 rfl) ?_
      have hPc := hP.sub (ws' := [(h_nd, .inr (3, [.ref h_nK, .ref h_nA, .ref h_nB, .ref h_nZ, .int nd_many])), (h_nK, .inl (cI, 201, .inl nK))]) [0, 1] rfl
      refine ro_ci (va_runV (As := [.int a2]) (rest := []) ⟨hx, hb, hml, hown, htb⟩ (met_Nd_isValue l dC dI cI cL cB h_nd h_nK h_nA h_nB h_nZ nd_many nK a2 _ hw) (cwV 1 htb (gdV kw_328 kw_330 kw_1 kw_40 kw_331) rfl rfl rfl (by decide +kernel) ⟨Nat.le_of_ble_eq_true rfl, Nat.le_of_ble_eq_true rfl⟩) ⟨fun a U g mk q => by obtain ⟨q0, qP, qK⟩ := q; exact ⟨q0, qP, KK_c qK⟩, va_recv hK.1 hP (ci := 3) (q0 := 0) rfl rfl, fun U hU hW => ⟨rfl, by rw [hU]; exact hPc, KK_w hW hK⟩⟩ rfl rfl hl.1 rfl (lv_room (Nat.le_of_ble_eq_true rfl)) dNd_sizeWith_25 ⟨Nat.zero_le _, Nat.zero_le _⟩) (fun r_25 hw => ?_)
      try dsimp only at hw
      refine lv_if_eq (tgt := 57) hx hb dNd_sizeWith_28 (by decide) (fun c_28 => ?_) (fun c_28 => ?_)
      · have hw := hw.1 c_28
        refine lv_iconst (v := 1) hx hb dNd_sizeWith_57 (by decide) ?_
        exact W.iret (v := 1) hx hb hr (fun t ht hW => ⟨_, rfl, hw, ht⟩) (fun q h => absurd h List.not_mem_nil) dNd_sizeWith_58
      · have hw := hw.2 c_28
        refine lv_aload_n hx hb dNd_sizeWith_31 rfl (lv_at hl 1 rfl) ?_
        refine lv_iload_n hx hb dNd_sizeWith_32 rfl (lv_at hl 4 rfl) ?_
        have hPc := hP.sub (ws' := [(h_nd, .inr (3, [.ref h_nK, .ref h_nA, .ref h_nB, .ref h_nZ, .int nd_many])), (h_nK, .inl (cI, 201, .inl nK))]) [0, 1] rfl
        refine ro_ci (va_runV (As := [.int a3]) (rest := []) ⟨hx, hb, hml, hown, htb⟩ (met_Nd_isValue l dC dI cI cL cB h_nd h_nK h_nA h_nB h_nZ nd_many nK a3 _ hw) (cwV 1 htb (gdV kw_328 kw_330 kw_1 kw_40 kw_331) rfl rfl rfl (by decide +kernel) ⟨Nat.le_of_ble_eq_true rfl, Nat.le_of_ble_eq_true rfl⟩) ⟨fun a U g mk q => by obtain ⟨q0, qP, qK⟩ := q; exact ⟨q0, qP, KK_c qK⟩, va_recv hK.1 hP (ci := 3) (q0 := 0) rfl rfl, fun U hU hW => ⟨rfl, by rw [hU]; exact hPc, KK_w hW hK⟩⟩ rfl rfl hl.1 rfl (lv_room (Nat.le_of_ble_eq_true rfl)) dNd_sizeWith_33 ⟨Nat.zero_le _, Nat.zero_le _⟩) (fun r_33 hw => ?_)
        try dsimp only at hw
        refine lv_if_eq (tgt := 57) hx hb dNd_sizeWith_36 (by decide) (fun c_36 => ?_) (fun c_36 => ?_)
        · have hw := hw.1 c_36
          refine lv_iconst (v := 1) hx hb dNd_sizeWith_57 (by decide) ?_
          exact W.iret (v := 1) hx hb hr (fun t ht hW => ⟨_, rfl, hw, ht⟩) (fun q h => absurd h List.not_mem_nil) dNd_sizeWith_58
        · have hw := hw.2 c_36
          refine lv_iconst (v := 1) hx hb dNd_sizeWith_39 (by decide) ?_
          refine lv_aload_n hx hb dNd_sizeWith_40 rfl (lv_at hl 1 rfl) ?_
          refine va_get (D := (dC, dI)) (ci := 3) (v := .ref h_nZ) (C := RNd) (T := TNd) (N := 5) hx hb htb in_Nd hown hK.1 hP 0 rfl rfl 3 (by decide) hf_21 (fun _ h9 => h9) rfl dNd_sizeWith_41 ?_
          refine lv_iload_n hx hb dNd_sizeWith_44 rfl (lv_at hl 3 rfl) ?_
          obtain ⟨hin, hw⟩ := hw
          refine va_iald hx hb hK.1 hP 2 0 rfl rfl hin dNd_sizeWith_45 ?_
          refine lv_iadd hx hb dNd_sizeWith_46 ?_
          refine lv_aload_n hx hb dNd_sizeWith_47 rfl (lv_at hl 1 rfl) ?_
          refine va_get (D := (dC, dI)) (ci := 3) (v := .ref h_nZ) (C := RNd) (T := TNd) (N := 5) hx hb htb in_Nd hown hK.1 hP 0 rfl rfl 3 (by decide) hf_21 (fun _ h9 => h9) rfl dNd_sizeWith_48 ?_
          refine lv_iload_n hx hb dNd_sizeWith_51 rfl (lv_at hl 4 rfl) ?_
          obtain ⟨hin, hw⟩ := hw
          refine va_iald hx hb hK.1 hP 2 0 rfl rfl hin dNd_sizeWith_52 ?_
          refine lv_iadd hx hb dNd_sizeWith_53 ?_
          refine lv_goto (tgt := 58) hx hb dNd_sizeWith_54 (by decide) ?_
          exact W.iret (v := ((1 + (nZ a2.toNatClampNeg)) + (nZ a3.toNatClampNeg))) hx hb hr (fun t ht hW => ⟨_, rfl, hw, ht⟩) (fun q h => absurd h List.not_mem_nil) dNd_sizeWith_58
  · have hw := hw.2 c_2
    refine lv_iload_n hx hb dNd_sizeWith_5 rfl (lv_at hl 1 rfl) ?_
    refine lv_bipush (v := 7) hx hb dNd_sizeWith_6 (by decide +kernel) ?_
    refine lv_icmp_gt (tgt := 15) hx hb dNd_sizeWith_8 (by decide) (fun c_8 => ?_) (fun c_8 => ?_)
    · have hw := hw.1 c_8
      refine lv_iconst (v := 0) hx hb dNd_sizeWith_15 (by decide) ?_
      refine lv_istore (lv' := [(4, .int 0), (0, .ref h_nd), (1, .int a1), (2, .int a2), (3, .int a3)]) hx hb dNd_sizeWith_16 hl (by decide) rfl (fun ls hl => ?_)
      refine lv_iload hx hb dNd_sizeWith_18 (lv_at hl 0 rfl) ?_
      refine lv_if_eq (tgt := 57) hx hb dNd_sizeWith_20 (by decide) (fun c_20 => ?_) (fun c_20 => ?_)
      · have hw := hw.1 c_20
        refine lv_iconst (v := 1) hx hb dNd_sizeWith_57 (by decide) ?_
        exact W.iret (v := 1) hx hb hr (fun t ht hW => ⟨_, rfl, hw, ht⟩) (fun q h => absurd h List.not_mem_nil) dNd_sizeWith_58
      · have hw := hw.2 c_20
        refine lv_aload_n hx hb dNd_sizeWith_23 rfl (lv_at hl 1 rfl) ?_
        refine lv_iload_n hx hb dNd_sizeWith_24 rfl (lv_at hl 3 rfl) ?_
        have hPc := hP.sub (ws' := [(h_nd, .inr (3, [.ref h_nK, .ref h_nA, .ref h_nB, .ref h_nZ, .int nd_many])), (h_nK, .inl (cI, 201, .inl nK))]) [0, 1] rfl
        refine ro_ci (va_runV (As := [.int a2]) (rest := []) ⟨hx, hb, hml, hown, htb⟩ (met_Nd_isValue l dC dI cI cL cB h_nd h_nK h_nA h_nB h_nZ nd_many nK a2 _ hw) (cwV 1 htb (gdV kw_328 kw_330 kw_1 kw_40 kw_331) rfl rfl rfl (by decide +kernel) ⟨Nat.le_of_ble_eq_true rfl, Nat.le_of_ble_eq_true rfl⟩) ⟨fun a U g mk q => by obtain ⟨q0, qP, qK⟩ := q; exact ⟨q0, qP, KK_c qK⟩, va_recv hK.1 hP (ci := 3) (q0 := 0) rfl rfl, fun U hU hW => ⟨rfl, by rw [hU]; exact hPc, KK_w hW hK⟩⟩ rfl rfl hl.1 rfl (lv_room (Nat.le_of_ble_eq_true rfl)) dNd_sizeWith_25 ⟨Nat.zero_le _, Nat.zero_le _⟩) (fun r_25 hw => ?_)
        try dsimp only at hw
        refine lv_if_eq (tgt := 57) hx hb dNd_sizeWith_28 (by decide) (fun c_28 => ?_) (fun c_28 => ?_)
        · have hw := hw.1 c_28
          refine lv_iconst (v := 1) hx hb dNd_sizeWith_57 (by decide) ?_
          exact W.iret (v := 1) hx hb hr (fun t ht hW => ⟨_, rfl, hw, ht⟩) (fun q h => absurd h List.not_mem_nil) dNd_sizeWith_58
        · have hw := hw.2 c_28
          refine lv_aload_n hx hb dNd_sizeWith_31 rfl (lv_at hl 1 rfl) ?_
          refine lv_iload_n hx hb dNd_sizeWith_32 rfl (lv_at hl 4 rfl) ?_
          have hPc := hP.sub (ws' := [(h_nd, .inr (3, [.ref h_nK, .ref h_nA, .ref h_nB, .ref h_nZ, .int nd_many])), (h_nK, .inl (cI, 201, .inl nK))]) [0, 1] rfl
          refine ro_ci (va_runV (As := [.int a3]) (rest := []) ⟨hx, hb, hml, hown, htb⟩ (met_Nd_isValue l dC dI cI cL cB h_nd h_nK h_nA h_nB h_nZ nd_many nK a3 _ hw) (cwV 1 htb (gdV kw_328 kw_330 kw_1 kw_40 kw_331) rfl rfl rfl (by decide +kernel) ⟨Nat.le_of_ble_eq_true rfl, Nat.le_of_ble_eq_true rfl⟩) ⟨fun a U g mk q => by obtain ⟨q0, qP, qK⟩ := q; exact ⟨q0, qP, KK_c qK⟩, va_recv hK.1 hP (ci := 3) (q0 := 0) rfl rfl, fun U hU hW => ⟨rfl, by rw [hU]; exact hPc, KK_w hW hK⟩⟩ rfl rfl hl.1 rfl (lv_room (Nat.le_of_ble_eq_true rfl)) dNd_sizeWith_33 ⟨Nat.zero_le _, Nat.zero_le _⟩) (fun r_33 hw => ?_)
          try dsimp only at hw
          refine lv_if_eq (tgt := 57) hx hb dNd_sizeWith_36 (by decide) (fun c_36 => ?_) (fun c_36 => ?_)
          · have hw := hw.1 c_36
            refine lv_iconst (v := 1) hx hb dNd_sizeWith_57 (by decide) ?_
            exact W.iret (v := 1) hx hb hr (fun t ht hW => ⟨_, rfl, hw, ht⟩) (fun q h => absurd h List.not_mem_nil) dNd_sizeWith_58
          · have hw := hw.2 c_36
            refine lv_iconst (v := 1) hx hb dNd_sizeWith_39 (by decide) ?_
            refine lv_aload_n hx hb dNd_sizeWith_40 rfl (lv_at hl 1 rfl) ?_
            refine va_get (D := (dC, dI)) (ci := 3) (v := .ref h_nZ) (C := RNd) (T := TNd) (N := 5) hx hb htb in_Nd hown hK.1 hP 0 rfl rfl 3 (by decide) hf_21 (fun _ h9 => h9) rfl dNd_sizeWith_41 ?_
            refine lv_iload_n hx hb dNd_sizeWith_44 rfl (lv_at hl 3 rfl) ?_
            obtain ⟨hin, hw⟩ := hw
            refine va_iald hx hb hK.1 hP 2 0 rfl rfl hin dNd_sizeWith_45 ?_
            refine lv_iadd hx hb dNd_sizeWith_46 ?_
            refine lv_aload_n hx hb dNd_sizeWith_47 rfl (lv_at hl 1 rfl) ?_
            refine va_get (D := (dC, dI)) (ci := 3) (v := .ref h_nZ) (C := RNd) (T := TNd) (N := 5) hx hb htb in_Nd hown hK.1 hP 0 rfl rfl 3 (by decide) hf_21 (fun _ h9 => h9) rfl dNd_sizeWith_48 ?_
            refine lv_iload_n hx hb dNd_sizeWith_51 rfl (lv_at hl 4 rfl) ?_
            obtain ⟨hin, hw⟩ := hw
            refine va_iald hx hb hK.1 hP 2 0 rfl rfl hin dNd_sizeWith_52 ?_
            refine lv_iadd hx hb dNd_sizeWith_53 ?_
            refine lv_goto (tgt := 58) hx hb dNd_sizeWith_54 (by decide) ?_
            exact W.iret (v := ((1 + (nZ a2.toNatClampNeg)) + (nZ a3.toNatClampNeg))) hx hb hr (fun t ht hW => ⟨_, rfl, hw, ht⟩) (fun q h => absurd h List.not_mem_nil) dNd_sizeWith_58
    · have hw := hw.2 c_8
      refine lv_iconst (v := 1) hx hb dNd_sizeWith_11 (by decide) ?_
      refine lv_goto (tgt := 16) hx hb dNd_sizeWith_12 (by decide) ?_
      refine lv_istore (lv' := [(4, .int 1), (0, .ref h_nd), (1, .int a1), (2, .int a2), (3, .int a3)]) hx hb dNd_sizeWith_16 hl (by decide) rfl (fun ls hl => ?_)
      refine lv_iload hx hb dNd_sizeWith_18 (lv_at hl 0 rfl) ?_
      refine lv_if_eq (tgt := 57) hx hb dNd_sizeWith_20 (by decide) (fun c_20 => ?_) (fun c_20 => ?_)
      · have hw := hw.1 c_20
        refine lv_iconst (v := 1) hx hb dNd_sizeWith_57 (by decide) ?_
        exact W.iret (v := 1) hx hb hr (fun t ht hW => ⟨_, rfl, hw, ht⟩) (fun q h => absurd h List.not_mem_nil) dNd_sizeWith_58
      · have hw := hw.2 c_20
        refine lv_aload_n hx hb dNd_sizeWith_23 rfl (lv_at hl 1 rfl) ?_
        refine lv_iload_n hx hb dNd_sizeWith_24 rfl (lv_at hl 3 rfl) ?_
        have hPc := hP.sub (ws' := [(h_nd, .inr (3, [.ref h_nK, .ref h_nA, .ref h_nB, .ref h_nZ, .int nd_many])), (h_nK, .inl (cI, 201, .inl nK))]) [0, 1] rfl
        refine ro_ci (va_runV (As := [.int a2]) (rest := []) ⟨hx, hb, hml, hown, htb⟩ (met_Nd_isValue l dC dI cI cL cB h_nd h_nK h_nA h_nB h_nZ nd_many nK a2 _ hw) (cwV 1 htb (gdV kw_328 kw_330 kw_1 kw_40 kw_331) rfl rfl rfl (by decide +kernel) ⟨Nat.le_of_ble_eq_true rfl, Nat.le_of_ble_eq_true rfl⟩) ⟨fun a U g mk q => by obtain ⟨q0, qP, qK⟩ := q; exact ⟨q0, qP, KK_c qK⟩, va_recv hK.1 hP (ci := 3) (q0 := 0) rfl rfl, fun U hU hW => ⟨rfl, by rw [hU]; exact hPc, KK_w hW hK⟩⟩ rfl rfl hl.1 rfl (lv_room (Nat.le_of_ble_eq_true rfl)) dNd_sizeWith_25 ⟨Nat.zero_le _, Nat.zero_le _⟩) (fun r_25 hw => ?_)
        try dsimp only at hw
        refine lv_if_eq (tgt := 57) hx hb dNd_sizeWith_28 (by decide) (fun c_28 => ?_) (fun c_28 => ?_)
        · have hw := hw.1 c_28
          refine lv_iconst (v := 1) hx hb dNd_sizeWith_57 (by decide) ?_
          exact W.iret (v := 1) hx hb hr (fun t ht hW => ⟨_, rfl, hw, ht⟩) (fun q h => absurd h List.not_mem_nil) dNd_sizeWith_58
        · have hw := hw.2 c_28
          refine lv_aload_n hx hb dNd_sizeWith_31 rfl (lv_at hl 1 rfl) ?_
          refine lv_iload_n hx hb dNd_sizeWith_32 rfl (lv_at hl 4 rfl) ?_
          have hPc := hP.sub (ws' := [(h_nd, .inr (3, [.ref h_nK, .ref h_nA, .ref h_nB, .ref h_nZ, .int nd_many])), (h_nK, .inl (cI, 201, .inl nK))]) [0, 1] rfl
          refine ro_ci (va_runV (As := [.int a3]) (rest := []) ⟨hx, hb, hml, hown, htb⟩ (met_Nd_isValue l dC dI cI cL cB h_nd h_nK h_nA h_nB h_nZ nd_many nK a3 _ hw) (cwV 1 htb (gdV kw_328 kw_330 kw_1 kw_40 kw_331) rfl rfl rfl (by decide +kernel) ⟨Nat.le_of_ble_eq_true rfl, Nat.le_of_ble_eq_true rfl⟩) ⟨fun a U g mk q => by obtain ⟨q0, qP, qK⟩ := q; exact ⟨q0, qP, KK_c qK⟩, va_recv hK.1 hP (ci := 3) (q0 := 0) rfl rfl, fun U hU hW => ⟨rfl, by rw [hU]; exact hPc, KK_w hW hK⟩⟩ rfl rfl hl.1 rfl (lv_room (Nat.le_of_ble_eq_true rfl)) dNd_sizeWith_33 ⟨Nat.zero_le _, Nat.zero_le _⟩) (fun r_33 hw => ?_)
          try dsimp only at hw
          refine lv_if_eq (tgt := 57) hx hb dNd_sizeWith_36 (by decide) (fun c_36 => ?_) (fun c_36 => ?_)
          · have hw := hw.1 c_36
            refine lv_iconst (v := 1) hx hb dNd_sizeWith_57 (by decide) ?_
            exact W.iret (v := 1) hx hb hr (fun t ht hW => ⟨_, rfl, hw, ht⟩) (fun q h => absurd h List.not_mem_nil) dNd_sizeWith_58
          · have hw := hw.2 c_36
            refine lv_iconst (v := 1) hx hb dNd_sizeWith_39 (by decide) ?_
            refine lv_aload_n hx hb dNd_sizeWith_40 rfl (lv_at hl 1 rfl) ?_
            refine va_get (D := (dC, dI)) (ci := 3) (v := .ref h_nZ) (C := RNd) (T := TNd) (N := 5) hx hb htb in_Nd hown hK.1 hP 0 rfl rfl 3 (by decide) hf_21 (fun _ h9 => h9) rfl dNd_sizeWith_41 ?_
            refine lv_iload_n hx hb dNd_sizeWith_44 rfl (lv_at hl 3 rfl) ?_
            obtain ⟨hin, hw⟩ := hw
            refine va_iald hx hb hK.1 hP 2 0 rfl rfl hin dNd_sizeWith_45 ?_
            refine lv_iadd hx hb dNd_sizeWith_46 ?_
            refine lv_aload_n hx hb dNd_sizeWith_47 rfl (lv_at hl 1 rfl) ?_
            refine va_get (D := (dC, dI)) (ci := 3) (v := .ref h_nZ) (C := RNd) (T := TNd) (N := 5) hx hb htb in_Nd hown hK.1 hP 0 rfl rfl 3 (by decide) hf_21 (fun _ h9 => h9) rfl dNd_sizeWith_48 ?_
            refine lv_iload_n hx hb dNd_sizeWith_51 rfl (lv_at hl 4 rfl) ?_
            obtain ⟨hin, hw⟩ := hw
            refine va_iald hx hb hK.1 hP 2 0 rfl rfl hin dNd_sizeWith_52 ?_
            refine lv_iadd hx hb dNd_sizeWith_53 ?_
            refine lv_goto (tgt := 58) hx hb dNd_sizeWith_54 (by decide) ?_
            exact W.iret (v := ((1 + (nZ a2.toNatClampNeg)) + (nZ a3.toNatClampNeg))) hx hb hr (fun t ht hW => ⟨_, rfl, hw, ht⟩) (fun q h => absurd h List.not_mem_nil) dNd_sizeWith_58
def wp_Nd_add (post : Int32 → Int32 → (Nat → Int32) → (Nat → Int32) → (Nat → Int32) → (Nat → Int32) → Prop) (nd_many : Int32) (nK : (Nat → Int32)) (nA : (Nat → Int32)) (nB : (Nat → Int32)) (nZ : (Nat → Int32)) (a1 : Int32) (a2 : Int32) (a3 : Int32) (a4 : Int32) : Prop := ((a1 < 0 → (post (-4) nd_many nK nA nB nZ)) ∧ (¬ a1 < 0 → ((a1 ≤ 25 → (vp_in a1 26 ∧ (wp_Nd_meets (fun (r_22 : Int32) => ((r_22 = 0 → (post (-2) nd_many nK nA nB nZ)) ∧ (¬ r_22 = 0 → (vp_in a1 26 ∧ (wp_Nd_meets (fun (r_37 : Int32) => ((¬ r_37 = 0 → (wp_Nd_isTargetSo (fun (r_49 : Int32) => ((¬ r_49 = 0 → (wp_Nd_sizeWith (fun (r_62 : Int32) => ((r_62 ≤ 100 → ((nd_many < 200 → (vp_in (nd_many + 1) 201 ∧ (vp_in (nd_many + 1) 201 ∧ (vp_in (nd_many + 1) 201 ∧ (vp_in (nd_many + 1) 201 ∧ (post (nd_many + 1) (nd_many + 1) (upd nK (nd_many + 1).toNatClampNeg a1) (upd nA (nd_many + 1).toNatClampNeg a2) (upd nB (nd_many + 1).toNatClampNeg a3) (upd nZ (nd_many + 1).toNatClampNeg r_62))))))) ∧ (¬ nd_many < 200 → (post (-1) nd_many nK nA nB nZ)))) ∧ (¬ r_62 ≤ 100 → (post (-7) nd_many nK nA nB nZ)))) nd_many nK nZ a1 a2 a3)) ∧ (r_49 = 0 → (post (-4) nd_many nK nA nB nZ)))) a1 a2)) ∧ (r_37 = 0 → (post (-2) nd_many nK nA nB nZ)))) nd_many nK (tNB a1.toNatClampNeg) a3 a4))))) nd_many nK (tNA a1.toNatClampNeg) a2 a4))) ∧ (¬ a1 ≤ 25 → (post (-4) nd_many nK nA nB nZ)))))
set_option maxHeartbeats 4000000 in
set_option maxRecDepth 100000 in
theorem met_Nd_add (l : Launch) (dC : Nat → ClassId) (dI : Nat → Nat → Nat) (cI cL cB : ClassId) (sz : Nat) (h_nd h_nK h_nA h_nB h_nZ : Nat) (t_NEEDS_OF_A : Nat) (t_NEEDS_OF_B : Nat) (nd_many : Int32) (nK : (Nat → Int32)) (nA : (Nat → Int32)) (nB : (Nat → Int32)) (nZ : (Nat → Int32)) (a1 : Int32) (a2 : Int32) (a3 : Int32) (a4 : Int32) (post : Int32 → Int32 → (Nat → Int32) → (Nat → Int32) → (Nat → Int32) → (Nat → Int32) → Prop) (hw : wp_Nd_add post nd_many nK nA nB nZ a1 a2 a3 a4) : Met l yNd_add wsNd_add ({ frames := 3, cells := 0, slots := 0, locals := 67 } : Room) (va_Pc [.ref h_nd, .int a1, .int a2, .int a3, .int a4] (fun U => U.heap.size = sz ∧ va_P (dC, dI) vwCl [(h_nd, .inr (3, [.ref h_nK, .ref h_nA, .ref h_nB, .ref h_nZ, .int nd_many])), (h_nK, .inl (cI, 201, .inl nK)), (h_nA, .inl (cI, 201, .inl nA)), (h_nB, .inl (cI, 201, .inl nB)), (h_nZ, .inl (cI, 201, .inl nZ))] U.heap ∧ KK dC dI cI cL cB U ∧ va_D (fun _ => True) [(h_nd, .inr (3, [.ref h_nK, .ref h_nA, .ref h_nB, .ref h_nZ, .int nd_many])), (h_nK, .inl (cI, 201, .inl nK)), (h_nA, .inl (cI, 201, .inl nA)), (h_nB, .inl (cI, 201, .inl nB)), (h_nZ, .inl (cI, 201, .inl nZ))] ∧ va_Z "ParagraphWalk" "NEEDS_OF_A" "[I" (.ref t_NEEDS_OF_A) (va_A [(h_nd, .inr (3, [.ref h_nK, .ref h_nA, .ref h_nB, .ref h_nZ, .int nd_many])), (h_nK, .inl (cI, 201, .inl nK)), (h_nA, .inl (cI, 201, .inl nA)), (h_nB, .inl (cI, 201, .inl nB)), (h_nZ, .inl (cI, 201, .inl nZ))] sz) U U.heap ∧ va_T .int t_NEEDS_OF_A 26 (fun j => .int (tNA j)) (va_A [(h_nd, .inr (3, [.ref h_nK, .ref h_nA, .ref h_nB, .ref h_nZ, .int nd_many])), (h_nK, .inl (cI, 201, .inl nK)), (h_nA, .inl (cI, 201, .inl nA)), (h_nB, .inl (cI, 201, .inl nB)), (h_nZ, .inl (cI, 201, .inl nZ))] sz) U U.heap ∧ va_Z "ParagraphWalk" "NEEDS_OF_B" "[I" (.ref t_NEEDS_OF_B) (va_A [(h_nd, .inr (3, [.ref h_nK, .ref h_nA, .ref h_nB, .ref h_nZ, .int nd_many])), (h_nK, .inl (cI, 201, .inl nK)), (h_nA, .inl (cI, 201, .inl nA)), (h_nB, .inl (cI, 201, .inl nB)), (h_nZ, .inl (cI, 201, .inl nZ))] sz) U U.heap ∧ va_T .int t_NEEDS_OF_B 26 (fun j => .int (tNB j)) (va_A [(h_nd, .inr (3, [.ref h_nK, .ref h_nA, .ref h_nB, .ref h_nZ, .int nd_many])), (h_nK, .inl (cI, 201, .inl nK)), (h_nA, .inl (cI, 201, .inl nA)), (h_nB, .inl (cI, 201, .inl nB)), (h_nZ, .inl (cI, 201, .inl nZ))] sz) U U.heap)) (va_Qi (fun (r : Int32) (u : Int32 × (Nat → Int32) × (Nat → Int32) × (Nat → Int32) × (Nat → Int32)) => post r u.1 u.2.1 u.2.2.1 u.2.2.2.1 u.2.2.2.2) (fun (u : Int32 × (Nat → Int32) × (Nat → Int32) × (Nat → Int32) × (Nat → Int32)) t => va_P (dC, dI) vwCl [(h_nd, .inr (3, [.ref h_nK, .ref h_nA, .ref h_nB, .ref h_nZ, .int u.1])), (h_nK, .inl (cI, 201, .inl u.2.1)), (h_nA, .inl (cI, 201, .inl u.2.2.1)), (h_nB, .inl (cI, 201, .inl u.2.2.2.1)), (h_nZ, .inl (cI, 201, .inl u.2.2.2.2))] t.heap ∧ va_D (va_A [(h_nd, .inr (3, [.ref h_nK, .ref h_nA, .ref h_nB, .ref h_nZ, .int nd_many])), (h_nK, .inl (cI, 201, .inl nK)), (h_nA, .inl (cI, 201, .inl nA)), (h_nB, .inl (cI, 201, .inl nB)), (h_nZ, .inl (cI, 201, .inl nZ))] sz) [(h_nd, .inr (3, [.ref h_nK, .ref h_nA, .ref h_nB, .ref h_nZ, .int u.1])), (h_nK, .inl (cI, 201, .inl u.2.1)), (h_nA, .inl (cI, 201, .inl u.2.2.1)), (h_nB, .inl (cI, 201, .inl u.2.2.2.1)), (h_nZ, .inl (cI, 201, .inl u.2.2.2.2))]) (va_A [(h_nd, .inr (3, [.ref h_nK, .ref h_nA, .ref h_nB, .ref h_nZ, .int nd_many])), (h_nK, .inl (cI, 201, .inl nK)), (h_nA, .inl (cI, 201, .inl nA)), (h_nB, .inl (cI, 201, .inl nB)), (h_nZ, .inl (cI, 201, .inl nZ))] sz)) 0 0 (va_A [(h_nd, .inr (3, [.ref h_nK, .ref h_nA, .ref h_nB, .ref h_nZ, .int nd_many])), (h_nK, .inl (cI, 201, .inl nK)), (h_nA, .inl (cI, 201, .inl nA)), (h_nB, .inl (cI, 201, .inl nB)), (h_nZ, .inl (cI, 201, .inl nZ))] sz) := by
  refine Met.ofW (cc := cNd_add) (maxL := 6) (ret := (some .int)) (by decide) rfl ?_
  intro p e s m args below meth c s₁ B hml hv
  obtain ⟨rfl, hsz, hP, hK, hD0, hZ_NEEDS_OF_A, hT_NEEDS_OF_A, hZ_NEEDS_OF_B, hT_NEEDS_OF_B⟩ := hv
  have hx := B.exec
  have hb := B.bytes
  have hr := B.returns
  have hts := atoms_spec (ws := wsNd_add) B.pre
  have hown : s.vm.findClass RNd = some m.cls := findClass_of_methodNamed B.named
  have hlocks := B.notSynchronized
  subst hsz
  have hD := hD0.self (sz := s.heap.size)
  generalize hAe : va_A [(h_nd, .inr (3, [.ref h_nK, .ref h_nA, .ref h_nB, .ref h_nZ, .int nd_many])), (h_nK, .inl (cI, 201, .inl nK)), (h_nA, .inl (cI, 201, .inl nA)), (h_nB, .inl (cI, 201, .inl nB)), (h_nZ, .inl (cI, 201, .inl nZ))] s.heap.size = A at hD hZ_NEEDS_OF_A hT_NEEDS_OF_A hZ_NEEDS_OF_B hT_NEEDS_OF_B ⊢
  have hA : ∀ q : Nat, s.heap.size ≤ q → A q := fun q h => by rw [← hAe]; exact Or.inr h
  have hS : va_S A s.heap s.heap [] := va_S.rf
  have hP : va_P (dC, dI) vwCl [(h_nd, .inr (3, [.ref h_nK, .ref h_nA, .ref h_nB, .ref h_nZ, .int nd_many])), (h_nK, .inl (cI, 201, .inl nK)), (h_nA, .inl (cI, 201, .inl nA)), (h_nB, .inl (cI, 201, .inl nB)), (h_nZ, .inl (cI, 201, .inl nZ))] s.heap := hP
  have htb : ∀ w ∈ TB, w.before _ s = true := fun w h => hts w (List.mem_cons_of_mem _ h)
  have hf_9 := htb _ kw_78
  have hf_15 := htb _ kw_79
  have hf_18 := htb _ kw_80
  have hf_21 := htb _ kw_81
  have hf_42 := htb _ kw_82
  have hl := lv_entry ([.ref h_nd, .int a1, .int a2, .int a3, .int a4]) (n := 6) (Nat.le_of_ble_eq_true rfl)
  rw [lg_entry_eq]
  generalize (lg_sl ([.ref h_nd, .int a1, .int a2, .int a3, .int a4]) ++ List.replicate (6 - (lg_sl ([.ref h_nd, .int a1, .int a2, .int a3, .int a4])).length) Slot.unset).toArray = ls at hl ⊢
  have hl : lv_has ls 6 [(0, .ref h_nd), (1, .int a1), (2, .int a2), (3, .int a3), (4, .int a4)] := hl
  unfold wp_Nd_add at hw
  refine lv_iload_n hx hb dNd_add_0 rfl (lv_at hl 1 rfl) ?_
  refine lv_if_lt (tgt := 10) hx hb dNd_add_1 (by decide) (fun c_1 => ?_) (fun c_1 => ?_)
  · have hw := hw.1 c_1
    refine lv_bipush (v := (-4)) hx hb dNd_add_10 (by decide +kernel) ?_
    have hP9 := hP.sub (ws' := [(h_nd, .inr (3, [.ref h_nK, .ref h_nA, .ref h_nB, .ref h_nZ, .int nd_many])), (h_nK, .inl (cI, 201, .inl nK)), (h_nA, .inl (cI, 201, .inl nA)), (h_nB, .inl (cI, 201, .inl nB)), (h_nZ, .inl (cI, 201, .inl nZ))]) [0, 1, 2, 3, 4] rfl
    have hD9 := hD.sub (ws' := [(h_nd, .inr (3, [.ref h_nK, .ref h_nA, .ref h_nB, .ref h_nZ, .int nd_many])), (h_nK, .inl (cI, 201, .inl nK)), (h_nA, .inl (cI, 201, .inl nA)), (h_nB, .inl (cI, 201, .inl nB)), (h_nZ, .inl (cI, 201, .inl nZ))]) [0, 1, 2, 3, 4] (by decide) rfl
    exact W.iret (v := (-4)) hx hb hr (fun t ht hW => ⟨⟨_, (nd_many, nK, nA, nB, nZ), rfl, hw, by rw [ht]; exact hP9, hD9⟩, hS.F ht⟩) hS.2.2 dNd_add_12
  · have hw := hw.2 c_1
    refine lv_iload_n hx hb dNd_add_4 rfl (lv_at hl 1 rfl) ?_
    refine lv_bipush (v := 25) hx hb dNd_add_5 (by decide +kernel) ?_
    refine lv_icmp_le (tgt := 13) hx hb dNd_add_7 (by decide) (fun c_7 => ?_) (fun c_7 => ?_)
    · have hw := hw.1 c_7
      refine lv_aload_n hx hb dNd_add_13 rfl (lv_at hl 0 rfl) ?_
      refine va_getsN hx hb hZ_NEEDS_OF_A hS hown (va_Nw.use rfl (hK.2 _ nw_18)) (fun _ h9 => h9) dNd_add_14 ?_
      refine lv_iload_n hx hb dNd_add_17 rfl (lv_at hl 1 rfl) ?_
      obtain ⟨hin, hw⟩ := hw
      refine va_ti hx hb hT_NEEDS_OF_A hS hin rfl dNd_add_18 ?_
      refine lv_iload_n hx hb dNd_add_19 rfl (lv_at hl 2 rfl) ?_
      refine lv_iload hx hb dNd_add_20 (lv_at hl 4 rfl) ?_
      have hPc := hP.sub (ws' := [(h_nd, .inr (3, [.ref h_nK, .ref h_nA, .ref h_nB, .ref h_nZ, .int nd_many])), (h_nK, .inl (cI, 201, .inl nK))]) [0, 1] rfl
      refine ro_ci (va_runV (As := [.int (tNA a1.toNatClampNeg), .int a2, .int a4]) (rest := []) ⟨hx, hb, hml, hown, htb⟩ (met_Nd_meets l dC dI cI cL cB h_nd h_nK h_nA h_nB h_nZ nd_many nK (tNA a1.toNatClampNeg) a2 a4 _ hw) (cwV 3 htb (gdV kw_324 kw_326 kw_0 kw_40 kw_327) rfl rfl rfl (by decide +kernel) ⟨Nat.le_of_ble_eq_true rfl, Nat.le_of_ble_eq_true rfl⟩) ⟨fun a U g mk q => by obtain ⟨q0, qP, qK⟩ := q; exact ⟨q0, qP, KK_c qK⟩, va_recv hK.1 hP (ci := 3) (q0 := 0) rfl rfl, fun U hU hW => ⟨rfl, by rw [hU]; exact hPc, KK_w hW hK⟩⟩ rfl rfl hl.1 rfl (lv_room (Nat.le_of_ble_eq_true rfl)) dNd_add_22 ⟨Nat.zero_le _, Nat.zero_le _⟩) (fun r_22 hw => ?_)
      try dsimp only at hw
      refine lv_if_eq (tgt := 43) hx hb dNd_add_25 (by decide) (fun c_25 => ?_) (fun c_25 => ?_)
      · have hw := hw.1 c_25
        refine lv_bipush (v := (-2)) hx hb dNd_add_43 (by decide +kernel) ?_
        have hP9 := hP.sub (ws' := [(h_nd, .inr (3, [.ref h_nK, .ref h_nA, .ref h_nB, .ref h_nZ, .int nd_many])), (h_nK, .inl (cI, 201, .inl nK)), (h_nA, .inl (cI, 201, .inl nA)), (h_nB, .inl (cI, 201, .inl nB)), (h_nZ, .inl (cI, 201, .inl nZ))]) [0, 1, 2, 3, 4] rfl
        have hD9 := hD.sub (ws' := [(h_nd, .inr (3, [.ref h_nK, .ref h_nA, .ref h_nB, .ref h_nZ, .int nd_many])), (h_nK, .inl (cI, 201, .inl nK)), (h_nA, .inl (cI, 201, .inl nA)), (h_nB, .inl (cI, 201, .inl nB)), (h_nZ, .inl (cI, 201, .inl nZ))]) [0, 1, 2, 3, 4] (by decide) rfl
        exact W.iret (v := (-2)) hx hb hr (fun t ht hW => ⟨⟨_, (nd_many, nK, nA, nB, nZ), rfl, hw, by rw [ht]; exact hP9, hD9⟩, hS.F ht⟩) hS.2.2 dNd_add_45
      · have hw := hw.2 c_25
        refine lv_aload_n hx hb dNd_add_28 rfl (lv_at hl 0 rfl) ?_
        refine va_getsN hx hb hZ_NEEDS_OF_B hS hown (va_Nw.use rfl (hK.2 _ nw_19)) (fun _ h9 => h9) dNd_add_29 ?_
        refine lv_iload_n hx hb dNd_add_32 rfl (lv_at hl 1 rfl) ?_
        obtain ⟨hin, hw⟩ := hw
        refine va_ti hx hb hT_NEEDS_OF_B hS hin rfl dNd_add_33 ?_
        refine lv_iload_n hx hb dNd_add_34 rfl (lv_at hl 3 rfl) ?_
        refine lv_iload hx hb dNd_add_35 (lv_at hl 4 rfl) ?_
        have hPc := hP.sub (ws' := [(h_nd, .inr (3, [.ref h_nK, .ref h_nA, .ref h_nB, .ref h_nZ, .int nd_many])), (h_nK, .inl (cI, 201, .inl nK))]) [0, 1] rfl
        refine ro_ci (va_runV (As := [.int (tNB a1.toNatClampNeg), .int a3, .int a4]) (rest := []) ⟨hx, hb, hml, hown, htb⟩ (met_Nd_meets l dC dI cI cL cB h_nd h_nK h_nA h_nB h_nZ nd_many nK (tNB a1.toNatClampNeg) a3 a4 _ hw) (cwV 3 htb (gdV kw_324 kw_326 kw_0 kw_40 kw_327) rfl rfl rfl (by decide +kernel) ⟨Nat.le_of_ble_eq_true rfl, Nat.le_of_ble_eq_true rfl⟩) ⟨fun a U g mk q => by obtain ⟨q0, qP, qK⟩ := q; exact ⟨q0, qP, KK_c qK⟩, va_recv hK.1 hP (ci := 3) (q0 := 0) rfl rfl, fun U hU hW => ⟨rfl, by rw [hU]; exact hPc, KK_w hW hK⟩⟩ rfl rfl hl.1 rfl (lv_room (Nat.le_of_ble_eq_true rfl)) dNd_add_37 ⟨Nat.zero_le _, Nat.zero_le _⟩) (fun r_37 hw => ?_)
        try dsimp only at hw
        refine lv_if_ne (tgt := 46) hx hb dNd_add_40 (by decide) (fun c_40 => ?_) (fun c_40 => ?_)
        · have hw := hw.1 c_40
          refine lv_aload_n hx hb dNd_add_46 rfl (lv_at hl 0 rfl) ?_
          refine lv_iload_n hx hb dNd_add_47 rfl (lv_at hl 1 rfl) ?_
          refine lv_iload_n hx hb dNd_add_48 rfl (lv_at hl 2 rfl) ?_
          refine ro_ci (va_runV (As := [.int a1, .int a2]) (rest := []) ⟨hx, hb, hml, hown, htb⟩ (met_Nd_isTargetSo l dC dI cI cL cB h_nd a1 a2 _ hw) (cwV 2 htb (gdV kw_342 kw_344 kw_2 kw_40 kw_345) rfl rfl rfl (by decide +kernel) ⟨Nat.le_of_ble_eq_true rfl, Nat.le_of_ble_eq_true rfl⟩) ⟨fun a U g mk q => by obtain ⟨q0, qP, qK⟩ := q; exact ⟨q0, qP, KK_c qK⟩, va_recv hK.1 hP (ci := 3) (q0 := 0) rfl rfl, fun U hU hW => ⟨rfl, by rw [hU]; exact fun k q h => by simp at h, KK_w hW hK⟩⟩ rfl rfl hl.1 rfl (lv_room (Nat.le_of_ble_eq_true rfl)) dNd_add_49 ⟨Nat.zero_le _, Nat.zero_le _⟩) (fun r_49 hw => ?_)
          try dsimp only at hw
          refine lv_if_ne (tgt := 58) hx hb dNd_add_52 (by decide) (fun c_52 => ?_) (fun c_52 => ?_)
          · have hw := hw.1 c_52
            refine lv_aload_n hx hb dNd_add_58 rfl (lv_at hl 0 rfl) ?_
            refine lv_iload_n hx hb dNd_add_59 rfl (lv_at hl 1 rfl) ?_
            refine lv_iload_n hx hb dNd_add_60 rfl (lv_at hl 2 rfl) ?_
            refine lv_iload_n hx hb dNd_add_61 rfl (lv_at hl 3 rfl) ?_
            have hPc := hP.sub (ws' := [(h_nd, .inr (3, [.ref h_nK, .ref h_nA, .ref h_nB, .ref h_nZ, .int nd_many])), (h_nK, .inl (cI, 201, .inl nK)), (h_nZ, .inl (cI, 201, .inl nZ))]) [0, 1, 4] rfl
            refine ro_ci (va_runV (As := [.int a1, .int a2, .int a3]) (rest := []) ⟨hx, hb, hml, hown, htb⟩ (met_Nd_sizeWith l dC dI cI cL cB h_nd h_nK h_nA h_nB h_nZ nd_many nK nZ a1 a2 a3 _ hw) (cwV 3 htb (gdV kw_346 kw_348 kw_3 kw_40 kw_349) rfl rfl rfl (by decide +kernel) ⟨Nat.le_of_ble_eq_true rfl, Nat.le_of_ble_eq_true rfl⟩) ⟨fun a U g mk q => by obtain ⟨q0, qP, qK⟩ := q; exact ⟨q0, qP, KK_c qK⟩, va_recv hK.1 hP (ci := 3) (q0 := 0) rfl rfl, fun U hU hW => ⟨rfl, by rw [hU]; exact hPc, KK_w hW hK⟩⟩ rfl rfl hl.1 rfl (lv_room (Nat.le_of_ble_eq_true rfl)) dNd_add_62 ⟨Nat.zero_le _, Nat.zero_le _⟩) (fun r_62 hw => ?_)
            try dsimp only at hw
            refine lv_istore (lv' := [(5, .int r_62), (0, .ref h_nd), (1, .int a1), (2, .int a2), (3, .int a3), (4, .int a4)]) hx hb dNd_add_65 hl (by decide) rfl (fun ls hl => ?_)
            refine lv_iload hx hb dNd_add_67 (lv_at hl 0 rfl) ?_
            refine lv_bipush (v := 100) hx hb dNd_add_69 (by decide +kernel) ?_
            refine lv_icmp_le (tgt := 77) hx hb dNd_add_71 (by decide) (fun c_71 => ?_) (fun c_71 => ?_)
            · have hw := hw.1 c_71
              refine lv_aload_n hx hb dNd_add_77 rfl (lv_at hl 1 rfl) ?_
              refine va_get (D := (dC, dI)) (ci := 3) (v := .int nd_many) (C := RNd) (T := TNd) (N := 5) hx hb htb in_Nd hown hK.1 hP 0 rfl rfl 4 (by decide) hf_42 (fun _ h9 => h9) rfl dNd_add_78 ?_
              refine lv_sipush (v := 200) hx hb dNd_add_81 (by decide +kernel) ?_
              refine lv_icmp_lt (tgt := 89) hx hb dNd_add_84 (by decide) (fun c_84 => ?_) (fun c_84 => ?_)
              · have hw := hw.1 c_84
                refine lv_aload_n hx hb dNd_add_89 rfl (lv_at hl 1 rfl) ?_
                refine lv_dup hx hb dNd_add_90 rfl ?_
                refine va_get (D := (dC, dI)) (ci := 3) (v := .int nd_many) (C := RNd) (T := TNd) (N := 5) hx hb htb in_Nd hown hK.1 hP 0 rfl rfl 4 (by decide) hf_42 (fun _ h9 => h9) rfl dNd_add_91 ?_
                refine lv_iconst (v := 1) hx hb dNd_add_94 (by decide) ?_
                refine lv_iadd hx hb dNd_add_95 ?_
                refine va_put (D := (dC, dI)) (ci := 3) (v := .int (nd_many + 1)) (ty := .int) (C := RNd) (T := TNd) (N := 5) hx hb htb in_Nd tyNd tyNd_ok nmNd hown hK.1 hP hD hS 0 rfl rfl 4 (by decide) hf_42 (fun _ h9 => h9) rfl (by decide +kernel) rfl rfl (Nat.le_of_ble_eq_true rfl) dNd_add_96 (fun H locs hP hD hS => ?_)
                have hP : va_P (dC, dI) vwCl [(h_nd, .inr (3, [.ref h_nK, .ref h_nA, .ref h_nB, .ref h_nZ, .int (nd_many + 1)])), (h_nK, .inl (cI, 201, .inl nK)), (h_nA, .inl (cI, 201, .inl nA)), (h_nB, .inl (cI, 201, .inl nB)), (h_nZ, .inl (cI, 201, .inl nZ))] H := hP
                have hD : va_D A [(h_nd, .inr (3, [.ref h_nK, .ref h_nA, .ref h_nB, .ref h_nZ, .int (nd_many + 1)])), (h_nK, .inl (cI, 201, .inl nK)), (h_nA, .inl (cI, 201, .inl nA)), (h_nB, .inl (cI, 201, .inl nB)), (h_nZ, .inl (cI, 201, .inl nZ))] := hD
                refine lv_aload_n hx hb dNd_add_99 rfl (lv_at hl 1 rfl) ?_
                refine va_get (D := (dC, dI)) (ci := 3) (v := .ref h_nK) (C := RNd) (T := TNd) (N := 5) hx hb htb in_Nd hown hK.1 hP 0 rfl rfl 0 (by decide) hf_9 (fun _ h9 => h9) rfl dNd_add_100 ?_
                refine lv_aload_n hx hb dNd_add_103 rfl (lv_at hl 1 rfl) ?_
                refine va_get (D := (dC, dI)) (ci := 3) (v := .int (nd_many + 1)) (C := RNd) (T := TNd) (N := 5) hx hb htb in_Nd hown hK.1 hP 0 rfl rfl 4 (by decide) hf_42 (fun _ h9 => h9) rfl dNd_add_104 ?_
                refine lv_iload_n hx hb dNd_add_107 rfl (lv_at hl 2 rfl) ?_
                obtain ⟨hin, hw⟩ := hw
                refine va_iast hx hb hK.1 hP hD hS 1 0 rfl rfl hin dNd_add_108 (fun H locs hP hD hS => ?_)
                have hP : va_P (dC, dI) vwCl [(h_nd, .inr (3, [.ref h_nK, .ref h_nA, .ref h_nB, .ref h_nZ, .int (nd_many + 1)])), (h_nK, .inl (cI, 201, .inl (upd nK (nd_many + 1).toNatClampNeg a1))), (h_nA, .inl (cI, 201, .inl nA)), (h_nB, .inl (cI, 201, .inl nB)), (h_nZ, .inl (cI, 201, .inl nZ))] H := hP
                have hD : va_D A [(h_nd, .inr (3, [.ref h_nK, .ref h_nA, .ref h_nB, .ref h_nZ, .int (nd_many + 1)])), (h_nK, .inl (cI, 201, .inl (upd nK (nd_many + 1).toNatClampNeg a1))), (h_nA, .inl (cI, 201, .inl nA)), (h_nB, .inl (cI, 201, .inl nB)), (h_nZ, .inl (cI, 201, .inl nZ))] := hD
                refine lv_aload_n hx hb dNd_add_109 rfl (lv_at hl 1 rfl) ?_
                refine va_get (D := (dC, dI)) (ci := 3) (v := .ref h_nA) (C := RNd) (T := TNd) (N := 5) hx hb htb in_Nd hown hK.1 hP 0 rfl rfl 1 (by decide) hf_15 (fun _ h9 => h9) rfl dNd_add_110 ?_
                refine lv_aload_n hx hb dNd_add_113 rfl (lv_at hl 1 rfl) ?_
                refine va_get (D := (dC, dI)) (ci := 3) (v := .int (nd_many + 1)) (C := RNd) (T := TNd) (N := 5) hx hb htb in_Nd hown hK.1 hP 0 rfl rfl 4 (by decide) hf_42 (fun _ h9 => h9) rfl dNd_add_114 ?_
                refine lv_iload_n hx hb dNd_add_117 rfl (lv_at hl 3 rfl) ?_
                obtain ⟨hin, hw⟩ := hw
                refine va_iast hx hb hK.1 hP hD hS 2 0 rfl rfl hin dNd_add_118 (fun H locs hP hD hS => ?_)
                have hP : va_P (dC, dI) vwCl [(h_nd, .inr (3, [.ref h_nK, .ref h_nA, .ref h_nB, .ref h_nZ, .int (nd_many + 1)])), (h_nK, .inl (cI, 201, .inl (upd nK (nd_many + 1).toNatClampNeg a1))), (h_nA, .inl (cI, 201, .inl (upd nA (nd_many + 1).toNatClampNeg a2))), (h_nB, .inl (cI, 201, .inl nB)), (h_nZ, .inl (cI, 201, .inl nZ))] H := hP
                have hD : va_D A [(h_nd, .inr (3, [.ref h_nK, .ref h_nA, .ref h_nB, .ref h_nZ, .int (nd_many + 1)])), (h_nK, .inl (cI, 201, .inl (upd nK (nd_many + 1).toNatClampNeg a1))), (h_nA, .inl (cI, 201, .inl (upd nA (nd_many + 1).toNatClampNeg a2))), (h_nB, .inl (cI, 201, .inl nB)), (h_nZ, .inl (cI, 201, .inl nZ))] := hD
                refine lv_aload_n hx hb dNd_add_119 rfl (lv_at hl 1 rfl) ?_
                refine va_get (D := (dC, dI)) (ci := 3) (v := .ref h_nB) (C := RNd) (T := TNd) (N := 5) hx hb htb in_Nd hown hK.1 hP 0 rfl rfl 2 (by decide) hf_18 (fun _ h9 => h9) rfl dNd_add_120 ?_
                refine lv_aload_n hx hb dNd_add_123 rfl (lv_at hl 1 rfl) ?_
                refine va_get (D := (dC, dI)) (ci := 3) (v := .int (nd_many + 1)) (C := RNd) (T := TNd) (N := 5) hx hb htb in_Nd hown hK.1 hP 0 rfl rfl 4 (by decide) hf_42 (fun _ h9 => h9) rfl dNd_add_124 ?_
                refine lv_iload_n hx hb dNd_add_127 rfl (lv_at hl 4 rfl) ?_
                obtain ⟨hin, hw⟩ := hw
                refine va_iast hx hb hK.1 hP hD hS 3 0 rfl rfl hin dNd_add_128 (fun H locs hP hD hS => ?_)
                have hP : va_P (dC, dI) vwCl [(h_nd, .inr (3, [.ref h_nK, .ref h_nA, .ref h_nB, .ref h_nZ, .int (nd_many + 1)])), (h_nK, .inl (cI, 201, .inl (upd nK (nd_many + 1).toNatClampNeg a1))), (h_nA, .inl (cI, 201, .inl (upd nA (nd_many + 1).toNatClampNeg a2))), (h_nB, .inl (cI, 201, .inl (upd nB (nd_many + 1).toNatClampNeg a3))), (h_nZ, .inl (cI, 201, .inl nZ))] H := hP
                have hD : va_D A [(h_nd, .inr (3, [.ref h_nK, .ref h_nA, .ref h_nB, .ref h_nZ, .int (nd_many + 1)])), (h_nK, .inl (cI, 201, .inl (upd nK (nd_many + 1).toNatClampNeg a1))), (h_nA, .inl (cI, 201, .inl (upd nA (nd_many + 1).toNatClampNeg a2))), (h_nB, .inl (cI, 201, .inl (upd nB (nd_many + 1).toNatClampNeg a3))), (h_nZ, .inl (cI, 201, .inl nZ))] := hD
                refine lv_aload_n hx hb dNd_add_129 rfl (lv_at hl 1 rfl) ?_
                refine va_get (D := (dC, dI)) (ci := 3) (v := .ref h_nZ) (C := RNd) (T := TNd) (N := 5) hx hb htb in_Nd hown hK.1 hP 0 rfl rfl 3 (by decide) hf_21 (fun _ h9 => h9) rfl dNd_add_130 ?_
                refine lv_aload_n hx hb dNd_add_133 rfl (lv_at hl 1 rfl) ?_
                refine va_get (D := (dC, dI)) (ci := 3) (v := .int (nd_many + 1)) (C := RNd) (T := TNd) (N := 5) hx hb htb in_Nd hown hK.1 hP 0 rfl rfl 4 (by decide) hf_42 (fun _ h9 => h9) rfl dNd_add_134 ?_
                refine lv_iload hx hb dNd_add_137 (lv_at hl 0 rfl) ?_
                obtain ⟨hin, hw⟩ := hw
                refine va_iast hx hb hK.1 hP hD hS 4 0 rfl rfl hin dNd_add_139 (fun H locs hP hD hS => ?_)
                have hP : va_P (dC, dI) vwCl [(h_nd, .inr (3, [.ref h_nK, .ref h_nA, .ref h_nB, .ref h_nZ, .int (nd_many + 1)])), (h_nK, .inl (cI, 201, .inl (upd nK (nd_many + 1).toNatClampNeg a1))), (h_nA, .inl (cI, 201, .inl (upd nA (nd_many + 1).toNatClampNeg a2))), (h_nB, .inl (cI, 201, .inl (upd nB (nd_many + 1).toNatClampNeg a3))), (h_nZ, .inl (cI, 201, .inl (upd nZ (nd_many + 1).toNatClampNeg r_62)))] H := hP
                have hD : va_D A [(h_nd, .inr (3, [.ref h_nK, .ref h_nA, .ref h_nB, .ref h_nZ, .int (nd_many + 1)])), (h_nK, .inl (cI, 201, .inl (upd nK (nd_many + 1).toNatClampNeg a1))), (h_nA, .inl (cI, 201, .inl (upd nA (nd_many + 1).toNatClampNeg a2))), (h_nB, .inl (cI, 201, .inl (upd nB (nd_many + 1).toNatClampNeg a3))), (h_nZ, .inl (cI, 201, .inl (upd nZ (nd_many + 1).toNatClampNeg r_62)))] := hD
                refine lv_aload_n hx hb dNd_add_140 rfl (lv_at hl 1 rfl) ?_
                refine va_get (D := (dC, dI)) (ci := 3) (v := .int (nd_many + 1)) (C := RNd) (T := TNd) (N := 5) hx hb htb in_Nd hown hK.1 hP 0 rfl rfl 4 (by decide) hf_42 (fun _ h9 => h9) rfl dNd_add_141 ?_
                have hP9 := hP.sub (ws' := [(h_nd, .inr (3, [.ref h_nK, .ref h_nA, .ref h_nB, .ref h_nZ, .int (nd_many + 1)])), (h_nK, .inl (cI, 201, .inl (upd nK (nd_many + 1).toNatClampNeg a1))), (h_nA, .inl (cI, 201, .inl (upd nA (nd_many + 1).toNatClampNeg a2))), (h_nB, .inl (cI, 201, .inl (upd nB (nd_many + 1).toNatClampNeg a3))), (h_nZ, .inl (cI, 201, .inl (upd nZ (nd_many + 1).toNatClampNeg r_62)))]) [0, 1, 2, 3, 4] rfl
                have hD9 := hD.sub (ws' := [(h_nd, .inr (3, [.ref h_nK, .ref h_nA, .ref h_nB, .ref h_nZ, .int (nd_many + 1)])), (h_nK, .inl (cI, 201, .inl (upd nK (nd_many + 1).toNatClampNeg a1))), (h_nA, .inl (cI, 201, .inl (upd nA (nd_many + 1).toNatClampNeg a2))), (h_nB, .inl (cI, 201, .inl (upd nB (nd_many + 1).toNatClampNeg a3))), (h_nZ, .inl (cI, 201, .inl (upd nZ (nd_many + 1).toNatClampNeg r_62)))]) [0, 1, 2, 3, 4] (by decide) rfl
                exact W.iret (v := (nd_many + 1)) hx hb hr (fun t ht hW => ⟨⟨_, ((nd_many + 1), (upd nK (nd_many + 1).toNatClampNeg a1), (upd nA (nd_many + 1).toNatClampNeg a2), (upd nB (nd_many + 1).toNatClampNeg a3), (upd nZ (nd_many + 1).toNatClampNeg r_62)), rfl, hw, by rw [ht]; exact hP9, hD9⟩, hS.F ht⟩) hS.2.2 dNd_add_144
              · have hw := hw.2 c_84
                refine lv_iconst (v := (-1)) hx hb dNd_add_87 (by decide) ?_
                have hP9 := hP.sub (ws' := [(h_nd, .inr (3, [.ref h_nK, .ref h_nA, .ref h_nB, .ref h_nZ, .int nd_many])), (h_nK, .inl (cI, 201, .inl nK)), (h_nA, .inl (cI, 201, .inl nA)), (h_nB, .inl (cI, 201, .inl nB)), (h_nZ, .inl (cI, 201, .inl nZ))]) [0, 1, 2, 3, 4] rfl
                have hD9 := hD.sub (ws' := [(h_nd, .inr (3, [.ref h_nK, .ref h_nA, .ref h_nB, .ref h_nZ, .int nd_many])), (h_nK, .inl (cI, 201, .inl nK)), (h_nA, .inl (cI, 201, .inl nA)), (h_nB, .inl (cI, 201, .inl nB)), (h_nZ, .inl (cI, 201, .inl nZ))]) [0, 1, 2, 3, 4] (by decide) rfl
                exact W.iret (v := (-1)) hx hb hr (fun t ht hW => ⟨⟨_, (nd_many, nK, nA, nB, nZ), rfl, hw, by rw [ht]; exact hP9, hD9⟩, hS.F ht⟩) hS.2.2 dNd_add_88
            · have hw := hw.2 c_71
              refine lv_bipush (v := (-7)) hx hb dNd_add_74 (by decide +kernel) ?_
              have hP9 := hP.sub (ws' := [(h_nd, .inr (3, [.ref h_nK, .ref h_nA, .ref h_nB, .ref h_nZ, .int nd_many])), (h_nK, .inl (cI, 201, .inl nK)), (h_nA, .inl (cI, 201, .inl nA)), (h_nB, .inl (cI, 201, .inl nB)), (h_nZ, .inl (cI, 201, .inl nZ))]) [0, 1, 2, 3, 4] rfl
              have hD9 := hD.sub (ws' := [(h_nd, .inr (3, [.ref h_nK, .ref h_nA, .ref h_nB, .ref h_nZ, .int nd_many])), (h_nK, .inl (cI, 201, .inl nK)), (h_nA, .inl (cI, 201, .inl nA)), (h_nB, .inl (cI, 201, .inl nB)), (h_nZ, .inl (cI, 201, .inl nZ))]) [0, 1, 2, 3, 4] (by decide) rfl
              exact W.iret (v := (-7)) hx hb hr (fun t ht hW => ⟨⟨_, (nd_many, nK, nA, nB, nZ), rfl, hw, by rw [ht]; exact hP9, hD9⟩, hS.F ht⟩) hS.2.2 dNd_add_76
          · have hw := hw.2 c_52
            refine lv_bipush (v := (-4)) hx hb dNd_add_55 (by decide +kernel) ?_
            have hP9 := hP.sub (ws' := [(h_nd, .inr (3, [.ref h_nK, .ref h_nA, .ref h_nB, .ref h_nZ, .int nd_many])), (h_nK, .inl (cI, 201, .inl nK)), (h_nA, .inl (cI, 201, .inl nA)), (h_nB, .inl (cI, 201, .inl nB)), (h_nZ, .inl (cI, 201, .inl nZ))]) [0, 1, 2, 3, 4] rfl
            have hD9 := hD.sub (ws' := [(h_nd, .inr (3, [.ref h_nK, .ref h_nA, .ref h_nB, .ref h_nZ, .int nd_many])), (h_nK, .inl (cI, 201, .inl nK)), (h_nA, .inl (cI, 201, .inl nA)), (h_nB, .inl (cI, 201, .inl nB)), (h_nZ, .inl (cI, 201, .inl nZ))]) [0, 1, 2, 3, 4] (by decide) rfl
            exact W.iret (v := (-4)) hx hb hr (fun t ht hW => ⟨⟨_, (nd_many, nK, nA, nB, nZ), rfl, hw, by rw [ht]; exact hP9, hD9⟩, hS.F ht⟩) hS.2.2 dNd_add_57
        · have hw := hw.2 c_40
          refine lv_bipush (v := (-2)) hx hb dNd_add_43 (by decide +kernel) ?_
          have hP9 := hP.sub (ws' := [(h_nd, .inr (3, [.ref h_nK, .ref h_nA, .ref h_nB, .ref h_nZ, .int nd_many])), (h_nK, .inl (cI, 201, .inl nK)), (h_nA, .inl (cI, 201, .inl nA)), (h_nB, .inl (cI, 201, .inl nB)), (h_nZ, .inl (cI, 201, .inl nZ))]) [0, 1, 2, 3, 4] rfl
          have hD9 := hD.sub (ws' := [(h_nd, .inr (3, [.ref h_nK, .ref h_nA, .ref h_nB, .ref h_nZ, .int nd_many])), (h_nK, .inl (cI, 201, .inl nK)), (h_nA, .inl (cI, 201, .inl nA)), (h_nB, .inl (cI, 201, .inl nB)), (h_nZ, .inl (cI, 201, .inl nZ))]) [0, 1, 2, 3, 4] (by decide) rfl
          exact W.iret (v := (-2)) hx hb hr (fun t ht hW => ⟨⟨_, (nd_many, nK, nA, nB, nZ), rfl, hw, by rw [ht]; exact hP9, hD9⟩, hS.F ht⟩) hS.2.2 dNd_add_45
    · have hw := hw.2 c_7
      refine lv_bipush (v := (-4)) hx hb dNd_add_10 (by decide +kernel) ?_
      have hP9 := hP.sub (ws' := [(h_nd, .inr (3, [.ref h_nK, .ref h_nA, .ref h_nB, .ref h_nZ, .int nd_many])), (h_nK, .inl (cI, 201, .inl nK)), (h_nA, .inl (cI, 201, .inl nA)), (h_nB, .inl (cI, 201, .inl nB)), (h_nZ, .inl (cI, 201, .inl nZ))]) [0, 1, 2, 3, 4] rfl
      have hD9 := hD.sub (ws' := [(h_nd, .inr (3, [.ref h_nK, .ref h_nA, .ref h_nB, .ref h_nZ, .int nd_many])), (h_nK, .inl (cI, 201, .inl nK)), (h_nA, .inl (cI, 201, .inl nA)), (h_nB, .inl (cI, 201, .inl nB)), (h_nZ, .inl (cI, 201, .inl nZ))]) [0, 1, 2, 3, 4] (by decide) rfl
      exact W.iret (v := (-4)) hx hb hr (fun t ht hW => ⟨⟨_, (nd_many, nK, nA, nB, nZ), rfl, hw, by rw [ht]; exact hP9, hD9⟩, hS.F ht⟩) hS.2.2 dNd_add_12
