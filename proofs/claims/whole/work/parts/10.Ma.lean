def wp_Ma_max (post : Int64 → Prop) (a1 : Int64) (a2 : Int64) : Prop := (((lg_cmp a1 a2) < 0 → (post a2)) ∧ (¬ (lg_cmp a1 a2) < 0 → (post a1)))
set_option maxHeartbeats 4000000 in
set_option maxRecDepth 100000 in
theorem met_Ma_max (l : Launch) (dC : Nat → ClassId) (dI : Nat → Nat → Nat) (cI cL cB : ClassId) (a1 : Int64) (a2 : Int64) (post : Int64 → Prop) (hw : wp_Ma_max post a1 a2) : Met l yMa_max wsMa_max ({ frames := 0, cells := 0, slots := 0, locals := 0 } : Room) (va_Pc [.long a1, .long a2] (fun U => va_P (dC, dI) vwCl [] U.heap ∧ KK dC dI cI cL cB U)) (ro_l post) 0 0 (fun _ => False) := by
  refine met_ofWF (cc := cMa_max) (maxL := 4) (ret := (some .long)) (by decide +kernel) rfl ?_
  intro p e s m args below meth c s₁ B hml hv
  obtain ⟨rfl, hP, hK⟩ := hv
  have hx := B.exec
  have hb := B.bytes
  have hr := B.returns
  have hts := atoms_spec (ws := wsMa_max) B.pre
  have hown : s.vm.findClass RMa = some m.cls := findClass_of_methodNamed B.named
  have hlocks := B.notSynchronized
  have hS : va_S (fun _ => False) s.heap s.heap [] := va_S.rf
  have htb : ∀ w ∈ TB, w.before _ s = true := fun w h => hts w (List.mem_cons_of_mem _ h)
  have hl := lv_entry ([.long a1, .long a2]) (n := 4) (Nat.le_of_ble_eq_true rfl)
  rw [lg_entry_eq]
  generalize (lg_sl ([.long a1, .long a2]) ++ List.replicate (4 - (lg_sl ([.long a1, .long a2])).length) Slot.unset).toArray = ls at hl ⊢
  have hl : lv_has ls 4 [(0, .long a1), (2, .long a2)] := hl
  unfold wp_Ma_max at hw
  refine lv_lload_n hx hb dMa_max_0 rfl (lv_at hl 0 rfl) ?_
  refine lv_lload_n hx hb dMa_max_1 rfl (lv_at hl 1 rfl) ?_
  refine W.lcmp hx hb dMa_max_2 ?_
  refine lv_if_lt (tgt := 10) hx hb dMa_max_3 (by decide) (fun c_3 => ?_) (fun c_3 => ?_)
  · have hw := hw.1 c_3
    refine lv_lload_n hx hb dMa_max_10 rfl (lv_at hl 1 rfl) ?_
    exact W.lret (v := a2) hx hb hr (fun t ht hW => ⟨_, rfl, hw, ht⟩) (fun q h => absurd h List.not_mem_nil) dMa_max_11
  · have hw := hw.2 c_3
    refine lv_lload_n hx hb dMa_max_6 rfl (lv_at hl 0 rfl) ?_
    refine lv_goto (tgt := 11) hx hb dMa_max_7 (by decide) ?_
    exact W.lret (v := a1) hx hb hr (fun t ht hW => ⟨_, rfl, hw, ht⟩) (fun q h => absurd h List.not_mem_nil) dMa_max_11
def wp_Ma_min (post : Int64 → Prop) (a1 : Int64) (a2 : Int64) : Prop := ((0 < (lg_cmp a1 a2) → (post a2)) ∧ (¬ 0 < (lg_cmp a1 a2) → (post a1)))
set_option maxHeartbeats 4000000 in
set_option maxRecDepth 100000 in
theorem met_Ma_min (l : Launch) (dC : Nat → ClassId) (dI : Nat → Nat → Nat) (cI cL cB : ClassId) (a1 : Int64) (a2 : Int64) (post : Int64 → Prop) (hw : wp_Ma_min post a1 a2) : Met l yMa_min wsMa_min ({ frames := 0, cells := 0, slots := 0, locals := 0 } : Room) (va_Pc [.long a1, .long a2] (fun U => va_P (dC, dI) vwCl [] U.heap ∧ KK dC dI cI cL cB U)) (ro_l post) 0 0 (fun _ => False) := by
  refine met_ofWF (cc := cMa_min) (maxL := 4) (ret := (some .long)) (by decide +kernel) rfl ?_
  intro p e s m args below meth c s₁ B hml hv
  obtain ⟨rfl, hP, hK⟩ := hv
  have hx := B.exec
  have hb := B.bytes
  have hr := B.returns
  have hts := atoms_spec (ws := wsMa_min) B.pre
  have hown : s.vm.findClass RMa = some m.cls := findClass_of_methodNamed B.named
  have hlocks := B.notSynchronized
  have hS : va_S (fun _ => False) s.heap s.heap [] := va_S.rf
  have htb : ∀ w ∈ TB, w.before _ s = true := fun w h => hts w (List.mem_cons_of_mem _ h)
  have hl := lv_entry ([.long a1, .long a2]) (n := 4) (Nat.le_of_ble_eq_true rfl)
  rw [lg_entry_eq]
  generalize (lg_sl ([.long a1, .long a2]) ++ List.replicate (4 - (lg_sl ([.long a1, .long a2])).length) Slot.unset).toArray = ls at hl ⊢
  have hl : lv_has ls 4 [(0, .long a1), (2, .long a2)] := hl
  unfold wp_Ma_min at hw
  refine lv_lload_n hx hb dMa_min_0 rfl (lv_at hl 0 rfl) ?_
  refine lv_lload_n hx hb dMa_min_1 rfl (lv_at hl 1 rfl) ?_
  refine W.lcmp hx hb dMa_min_2 ?_
  refine lv_if_gt (tgt := 10) hx hb dMa_min_3 (by decide) (fun c_3 => ?_) (fun c_3 => ?_)
  · have hw := hw.1 c_3
    refine lv_lload_n hx hb dMa_min_10 rfl (lv_at hl 1 rfl) ?_
    exact W.lret (v := a2) hx hb hr (fun t ht hW => ⟨_, rfl, hw, ht⟩) (fun q h => absurd h List.not_mem_nil) dMa_min_11
  · have hw := hw.2 c_3
    refine lv_lload_n hx hb dMa_min_6 rfl (lv_at hl 0 rfl) ?_
    refine lv_goto (tgt := 11) hx hb dMa_min_7 (by decide) ?_
    exact W.lret (v := a1) hx hb hr (fun t ht hW => ⟨_, rfl, hw, ht⟩) (fun q h => absurd h List.not_mem_nil) dMa_min_11
def wp_Ma_floorMod (post : Int32 → Prop) (a1 : Int32) (a2 : Int32) : Prop := (¬ (a2 : Int32) = 0 ∧ ((0 ≤ (a1 ^^^ a2) → (post (a1 - a1 / a2 * a2))) ∧ (¬ 0 ≤ (a1 ^^^ a2) → (((a1 - a1 / a2 * a2) = 0 → (post (a1 - a1 / a2 * a2))) ∧ (¬ (a1 - a1 / a2 * a2) = 0 → (post ((a1 - a1 / a2 * a2) + a2)))))))
set_option maxHeartbeats 4000000 in
set_option maxRecDepth 100000 in
theorem met_Ma_floorMod (l : Launch) (dC : Nat → ClassId) (dI : Nat → Nat → Nat) (cI cL cB : ClassId) (a1 : Int32) (a2 : Int32) (post : Int32 → Prop) (hw : wp_Ma_floorMod post a1 a2) : Met l yMa_floorMod wsMa_floorMod ({ frames := 0, cells := 0, slots := 0, locals := 0 } : Room) (va_Pc [.int a1, .int a2] (fun U => va_P (dC, dI) vwCl [] U.heap ∧ KK dC dI cI cL cB U)) (ro_i post) 0 0 (fun _ => False) := by
  refine met_ofWF (cc := cMa_floorMod) (maxL := 3) (ret := (some .int)) (by decide +kernel) rfl ?_
  intro p e s m args below meth c s₁ B hml hv
  obtain ⟨rfl, hP, hK⟩ := hv
  have hx := B.exec
  have hb := B.bytes
  have hr := B.returns
  have hts := atoms_spec (ws := wsMa_floorMod) B.pre
  have hown : s.vm.findClass RMa = some m.cls := findClass_of_methodNamed B.named
  have hlocks := B.notSynchronized
  have hS : va_S (fun _ => False) s.heap s.heap [] := va_S.rf
  have htb : ∀ w ∈ TB, w.before _ s = true := fun w h => hts w (List.mem_cons_of_mem _ h)
  have hl := lv_entry ([.int a1, .int a2]) (n := 3) (Nat.le_of_ble_eq_true rfl)
  rw [lg_entry_eq]
  generalize (lg_sl ([.int a1, .int a2]) ++ List.replicate (3 - (lg_sl ([.int a1, .int a2])).length) Slot.unset).toArray = ls at hl ⊢
  have hl : lv_has ls 3 [(0, .int a1), (1, .int a2)] := hl
  unfold wp_Ma_floorMod at hw
  refine lv_iload_n hx hb dMa_floorMod_0 rfl (lv_at hl 0 rfl) ?_
  refine lv_iload_n hx hb dMa_floorMod_1 rfl (lv_at hl 1 rfl) ?_
  obtain ⟨hne, hw⟩ := hw
  refine lv_irem hx hb dMa_floorMod_2 hne ?_
  refine lv_istore_n (lv' := [(2, .int (a1 - a1 / a2 * a2)), (0, .int a1), (1, .int a2)]) hx hb dMa_floorMod_3 rfl hl (by decide) rfl (fun ls hl => ?_)
  refine lv_iload_n hx hb dMa_floorMod_4 rfl (lv_at hl 1 rfl) ?_
  refine lv_iload_n hx hb dMa_floorMod_5 rfl (lv_at hl 2 rfl) ?_
  refine lv_ixor hx hb dMa_floorMod_6 ?_
  refine lv_if_ge (tgt := 18) hx hb dMa_floorMod_7 (by decide) (fun c_7 => ?_) (fun c_7 => ?_)
  · have hw := hw.1 c_7
    refine lv_iload_n hx hb dMa_floorMod_18 rfl (lv_at hl 0 rfl) ?_
    exact W.iret (v := (a1 - a1 / a2 * a2)) hx hb hr (fun t ht hW => ⟨_, rfl, hw, ht⟩) (fun q h => absurd h List.not_mem_nil) dMa_floorMod_19
  · have hw := hw.2 c_7
    refine lv_iload_n hx hb dMa_floorMod_10 rfl (lv_at hl 0 rfl) ?_
    refine lv_if_eq (tgt := 18) hx hb dMa_floorMod_11 (by decide) (fun c_11 => ?_) (fun c_11 => ?_)
    · have hw := hw.1 c_11
      refine lv_iload_n hx hb dMa_floorMod_18 rfl (lv_at hl 0 rfl) ?_
      exact W.iret (v := (a1 - a1 / a2 * a2)) hx hb hr (fun t ht hW => ⟨_, rfl, hw, ht⟩) (fun q h => absurd h List.not_mem_nil) dMa_floorMod_19
    · have hw := hw.2 c_11
      refine lv_iload_n hx hb dMa_floorMod_14 rfl (lv_at hl 0 rfl) ?_
      refine lv_iload_n hx hb dMa_floorMod_15 rfl (lv_at hl 2 rfl) ?_
      refine lv_iadd hx hb dMa_floorMod_16 ?_
      exact W.iret (v := ((a1 - a1 / a2 * a2) + a2)) hx hb hr (fun t ht hW => ⟨_, rfl, hw, ht⟩) (fun q h => absurd h List.not_mem_nil) dMa_floorMod_17
