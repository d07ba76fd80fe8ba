def wp_Mo_held (post : Int64 → Prop) (a1 : Int64) : Prop := ((0 ≤ (lg_cmp a1 0) → (((lg_cmp a1 1000) ≤ 0 → (post a1)) ∧ (¬ (lg_cmp a1 1000) ≤ 0 → (post 1000)))) ∧ (¬ 0 ≤ (lg_cmp a1 0) → (post 0)))
set_option maxHeartbeats 4000000 in
set_option maxRecDepth 100000 in
theorem met_Mo_held (l : Launch) (dC : Nat → ClassId) (dI : Nat → Nat → Nat) (cI cL cB : ClassId) (a1 : Int64) (post : Int64 → Prop) (hw : wp_Mo_held post a1) : Met l yMo_held wsMo_held ({ frames := 0, cells := 0, slots := 0, locals := 0 } : Room) (va_Pc [.long a1] (fun U => va_P (dC, dI) vwCl [] U.heap ∧ KK dC dI cI cL cB U)) (ro_l post) 0 0 (fun _ => False) := by
  refine Met.ofW (cc := cMo_held) (maxL := 2) (ret := (some .long)) (by decide) rfl ?_
  intro p e s m args below meth c s₁ B hml hv
  obtain ⟨rfl, hP, hK⟩ := hv
  have hx := B.exec
  have hb := B.bytes
  have hr := B.returns
  have hts := atoms_spec (ws := wsMo_held) B.pre
  have hown : s.vm.findClass RMo = some m.cls := findClass_of_methodNamed B.named
  have hlocks := B.notSynchronized
  have hS : va_S (fun _ => False) s.heap s.heap [] := va_S.rf
  have htb : ∀ w ∈ TB, w.before _ s = true := fun w h => hts w (List.mem_cons_of_mem _ h)
  have hl := lv_entry ([.long a1]) (n := 2) (Nat.le_of_ble_eq_true rfl)
  rw [lg_entry_eq]
  generalize (lg_sl ([.long a1]) ++ List.replicate (2 - (lg_sl ([.long a1])).length) Slot.unset).toArray = ls at hl ⊢
  have hl : lv_has ls 2 [(0, .long a1)] := hl
  unfold wp_Mo_held at hw
  refine lv_lload_n hx hb dMo_held_0 rfl (lv_at hl 0 rfl) ?_
  refine lv_lconst (v := 0) hx hb dMo_held_1 (by decide) ?_
  refine W.lcmp hx hb dMo_held_2 ?_
  refine lv_if_ge (tgt := 10) hx hb dMo_held_3 (by decide) (fun c_3 => ?_) (fun c_3 => ?_)
  · have hw := hw.1 c_3
    refine lv_lload_n hx hb dMo_held_10 rfl (lv_at hl 0 rfl) ?_
    refine lv_ldc2 (v := 1000) hx hb hown (htb _ kw_686) dMo_held_11 ?_
    refine W.lcmp hx hb dMo_held_14 ?_
    refine lv_if_le (tgt := 24) hx hb dMo_held_15 (by decide) (fun c_15 => ?_) (fun c_15 => ?_)
    · have hw := hw.1 c_15
      refine lv_lload_n hx hb dMo_held_24 rfl (lv_at hl 0 rfl) ?_
      exact W.lret (v := a1) hx hb hr (fun t ht hW => ⟨_, rfl, hw, ht⟩) (fun q h => absurd h List.not_mem_nil) dMo_held_25
    · have hw := hw.2 c_15
      refine lv_ldc2 (v := 1000) hx hb hown (htb _ kw_686) dMo_held_18 ?_
      refine lv_goto (tgt := 25) hx hb dMo_held_21 (by decide) ?_
      exact W.lret (v := 1000) hx hb hr (fun t ht hW => ⟨_, rfl, hw, ht⟩) (fun q h => absurd h List.not_mem_nil) dMo_held_25
  · have hw := hw.2 c_3
    refine lv_lconst (v := 0) hx hb dMo_held_6 (by decide) ?_
    refine lv_goto (tgt := 25) hx hb dMo_held_7 (by decide) ?_
    exact W.lret (v := 0) hx hb hr (fun t ht hW => ⟨_, rfl, hw, ht⟩) (fun q h => absurd h List.not_mem_nil) dMo_held_25
def wp_Mo_thrown (post : Int32 → Prop) (mo_thrown : Int32) (mo_steps : Int64) (mo_cells : Int32) (mo_nodes : Int32) (mo_paragraphs : Int32) (mo_waiting : Int32) (mo_at : Int32) (mo_high : Int32) (mo_begun : Int32) (mo_raised : Int32) (mo_next : Int32) (mo_isSpent : Int32) (mo_result : Int64) (mo_fails : Int32) : Prop := (post mo_thrown)
set_option maxHeartbeats 4000000 in
set_option maxRecDepth 100000 in
theorem met_Mo_thrown (l : Launch) (dC : Nat → ClassId) (dI : Nat → Nat → Nat) (cI cL cB : ClassId) (h_mo h_mD h_mV h_mK h_mA h_mB h_mW h_mN h_mQ h_mR h_mS h_mP h_mO h_mT h_mU : Nat) (mo_thrown : Int32) (mo_steps : Int64) (mo_cells : Int32) (mo_nodes : Int32) (mo_paragraphs : Int32) (mo_waiting : Int32) (mo_at : Int32) (mo_high : Int32) (mo_begun : Int32) (mo_raised : Int32) (mo_next : Int32) (mo_isSpent : Int32) (mo_result : Int64) (mo_fails : Int32) (post : Int32 → Prop) (hw : wp_Mo_thrown post mo_thrown mo_steps mo_cells mo_nodes mo_paragraphs mo_waiting mo_at mo_high mo_begun mo_raised mo_next mo_isSpent mo_result mo_fails) : Met l yMo_thrown wsMo_thrown ({ frames := 0, cells := 0, slots := 0, locals := 0 } : Room) (va_Pc [.ref h_mo] (fun U => va_P (dC, dI) vwCl [(h_mo, .inr (9, [.int mo_thrown, .long mo_steps, .int mo_cells, .int mo_nodes, .int mo_paragraphs, .int mo_waiting, .ref h_mD, .ref h_mV, .ref h_mK, .ref h_mA, .ref h_mB, .ref h_mW, .ref h_mN, .ref h_mQ, .ref h_mR, .ref h_mS, .int mo_at, .int mo_high, .int mo_begun, .int mo_raised, .int mo_next, .int mo_isSpent, .long mo_result, .ref h_mP, .ref h_mO, .ref h_mT, .ref h_mU, .int mo_fails]))] U.heap ∧ KK dC dI cI cL cB U)) (ro_i post) 0 0 (fun _ => False) := by
  refine Met.ofW (cc := cMo_thrown) (maxL := 1) (ret := (some .int)) (by decide) rfl ?_
  intro p e s m args below meth c s₁ B hml hv
  obtain ⟨rfl, hP, hK⟩ := hv
  have hx := B.exec
  have hb := B.bytes
  have hr := B.returns
  have hts := atoms_spec (ws := wsMo_thrown) B.pre
  have hown : s.vm.findClass RMo = some m.cls := findClass_of_methodNamed B.named
  have hlocks := B.notSynchronized
  have hS : va_S (fun _ => False) s.heap s.heap [] := va_S.rf
  have htb : ∀ w ∈ TB, w.before _ s = true := fun w h => hts w (List.mem_cons_of_mem _ h)
  have hf_63 := htb _ kw_687
  have hl := lv_entry ([.ref h_mo]) (n := 1) (Nat.le_of_ble_eq_true rfl)
  rw [lg_entry_eq]
  generalize (lg_sl ([.ref h_mo]) ++ List.replicate (1 - (lg_sl ([.ref h_mo])).length) Slot.unset).toArray = ls at hl ⊢
  have hl : lv_has ls 1 [(0, .ref h_mo)] := hl
  unfold wp_Mo_thrown at hw
  refine lv_aload_n hx hb dMo_thrown_0 rfl (lv_at hl 0 rfl) ?_
  refine va_get (D := (dC, dI)) (ci := 9) (v := .int mo_thrown) (C := RMo) (T := TMo) (N := 28) hx hb htb in_Mo hown hK.1 hP 0 rfl rfl 0 (by decide) hf_63 (fun _ h9 => h9) rfl dMo_thrown_1 ?_
  exact W.iret (v := mo_thrown) hx hb hr (fun t ht hW => ⟨_, rfl, hw, ht⟩) (fun q h => absurd h List.not_mem_nil) dMo_thrown_4
def wl_Mo_cut_5 (post : Int64 → Prop) : Nat → Int32 → Int64 → Int64 → Int32 → Prop
  | 0, _, _, _, _ => False
  | n + 1, y0, y1, y3, y5 => ((y0 ≤ y5 → (¬ (y3 : Int64) = 0 ∧ (post (y1 - y1 / y3 * y3)))) ∧ (¬ y0 ≤ y5 → (wl_Mo_cut_5 post n y0 y1 (y3 * 10) (y5 + 1))))
def wp_Mo_cut (post : Int64 → Prop) (a1 : Int32) (a2 : Int64) : Prop := (∃ n : Nat, wl_Mo_cut_5 post n a1 a2 1 0)
set_option maxHeartbeats 4000000 in
set_option maxRecDepth 100000 in
theorem met_Mo_cut (l : Launch) (dC : Nat → ClassId) (dI : Nat → Nat → Nat) (cI cL cB : ClassId) (a1 : Int32) (a2 : Int64) (post : Int64 → Prop) (hw : wp_Mo_cut post a1 a2) : Met l yMo_cut wsMo_cut ({ frames := 0, cells := 0, slots := 0, locals := 0 } : Room) (va_Pc [.int a1, .long a2] (fun U => va_P (dC, dI) vwCl [] U.heap ∧ KK dC dI cI cL cB U)) (ro_l post) 0 0 (fun _ => False) := by
  refine Met.ofW (cc := cMo_cut) (maxL := 6) (ret := (some .long)) (by decide) rfl ?_
  intro p e s m args below meth c s₁ B hml hv
  obtain ⟨rfl, hP, hK⟩ := hv
  have hx := B.exec
  have hb := B.bytes
  have hr := B.returns
  have hts := atoms_spec (ws := wsMo_cut) B.pre
  have hown : s.vm.findClass RMo = some m.cls := findClass_of_methodNamed B.named
  have hlocks := B.notSynchronized
  have hS : va_S (fun _ => False) s.heap s.heap [] := va_S.rf
  obtain ⟨Q, hQ⟩ : ∃ Q : State → Prop, Q = MQ below (ro_l post) ([.int a1, .long a2] : List Value).toArray s 0 0 (fun _ => False) := ⟨_, rfl⟩
  rw [← hQ]
  have htb : ∀ w ∈ TB, w.before _ s = true := fun w h => hts w (List.mem_cons_of_mem _ h)
  have lp_5 : ∀ (n : Nat) (y0 : Int32) (y1 : Int64) (y3 : Int64) (y5 : Int32), wl_Mo_cut_5 post n y0 y1 y3 y5 → ∀ (ls : Array Slot), lv_has ls 6 [(0, .int y0), (1, .long y1), (3, .long y3), (5, .int y5)] → W p l e (headSpec wsMo_cut ({ frames := 0, cells := 0, slots := 0, locals := 0 } : Room)).room s m ([.int a1, .long a2] : List Value).toArray below meth c s.heap [] 0 0 Q (F0 m 5 ls []) := by
    intro n
    induction n with
    | zero => intro y0 y1 y3 y5 hw; exact absurd hw id
    | succ n ih =>
      intro y0 y1 y3 y5 hw ls hl
      refine lv_iload hx hb dMo_cut_5 (lv_at hl 3 rfl) ?_
      refine lv_iload_n hx hb dMo_cut_7 rfl (lv_at hl 0 rfl) ?_
      refine lv_icmp_ge (tgt := 23) hx hb dMo_cut_8 (by decide) (fun c_8 => ?_) (fun c_8 => ?_)
      · have hw := hw.1 c_8
        refine lv_lload_n hx hb dMo_cut_23 rfl (lv_at hl 1 rfl) ?_
        refine lv_lload_n hx hb dMo_cut_24 rfl (lv_at hl 2 rfl) ?_
        obtain ⟨hne, hw⟩ := hw
        refine lv_lrem hx hb dMo_cut_25 hne ?_
        rw [hQ]
        exact W.lret (v := (y1 - y1 / y3 * y3)) hx hb hr (fun t ht hW => ⟨_, rfl, hw, ht⟩) (fun q h => absurd h List.not_mem_nil) dMo_cut_26
      · have hw := hw.2 c_8
        refine lv_lload_n hx hb dMo_cut_11 rfl (lv_at hl 2 rfl) ?_
        refine lv_ldc2 (v := 10) hx hb hown (htb _ kw_783) dMo_cut_12 ?_
        refine lv_lmul hx hb dMo_cut_15 ?_
        refine lv_lstore_n (lv' := [(3, .long (y3 * 10)), (0, .int y0), (1, .long y1), (5, .int y5)]) hx hb dMo_cut_16 rfl hl (by decide) rfl (fun ls hl => ?_)
        refine lv_iinc (v := (y5 + 1)) (lv' := [(5, .int (y5 + 1)), (3, .long (y3 * 10)), (0, .int y0), (1, .long y1)]) hx hb dMo_cut_17 hl (k := 3) rfl rfl (by decide) rfl (fun ls hl => ?_)
        refine lv_goto (tgt := 5) hx hb dMo_cut_20 (by decide) ?_
        exact ih y0 y1 (y3 * 10) (y5 + 1) hw ls (lv_sub hl [2, 3, 1, 0] rfl)
  have hl := lv_entry ([.int a1, .long a2]) (n := 6) (Nat.le_of_ble_eq_true rfl)
  rw [lg_entry_eq]
  generalize (lg_sl ([.int a1, .long a2]) ++ List.replicate (6 - (lg_sl ([.int a1, .long a2])).length) Slot.unset).toArray = ls at hl ⊢
  have hl : lv_has ls 6 [(0, .int a1), (1, .long a2)] := hl
  unfold wp_Mo_cut at hw
  refine lv_lconst (v := 1) hx hb dMo_cut_0 (by decide) ?_
  refine lv_lstore_n (lv' := [(3, .long 1), (0, .int a1), (1, .long a2)]) hx hb dMo_cut_1 rfl hl (by decide) rfl (fun ls hl => ?_)
  refine lv_iconst (v := 0) hx hb dMo_cut_2 (by decide) ?_
  refine lv_istore (lv' := [(5, .int 0), (3, .long 1), (0, .int a1), (1, .long a2)]) hx hb dMo_cut_3 hl (by decide) rfl (fun ls hl => ?_)
  obtain ⟨n9, hw⟩ := hw
  exact lp_5 n9 a1 a2 1 0 hw ls (lv_sub hl [2, 3, 1, 0] rfl)
def wp_Mo_cell (post : Int32 → Int32 → Int32 → (Nat → Int32) → (Nat → Int64) → Prop) (mo_thrown : Int32) (mo_steps : Int64) (mo_cells : Int32) (mo_nodes : Int32) (mo_paragraphs : Int32) (mo_waiting : Int32) (mo_at : Int32) (mo_high : Int32) (mo_begun : Int32) (mo_raised : Int32) (mo_next : Int32) (mo_isSpent : Int32) (mo_result : Int64) (mo_fails : Int32) (mD : (Nat → Int32)) (mV : (Nat → Int64)) (a1 : Int32) (a2 : Int64) : Prop := ((a1 < 1 → (post (-4) 0 mo_cells mD mV)) ∧ (¬ a1 < 1 → ((a1 ≤ 18 → ((¬ mo_cells = 40 → (vp_in mo_cells 40 ∧ (wp_Mo_cut (fun (r_50 : Int64) => (vp_in mo_cells 40 ∧ (post ((mo_cells + 1) - 1) 0 (mo_cells + 1) (upd mD mo_cells.toNatClampNeg a1) (vp_updL mV mo_cells.toNatClampNeg r_50)))) a1 a2))) ∧ (mo_cells = 40 → (post (-1) 0 mo_cells mD mV)))) ∧ (¬ a1 ≤ 18 → (post (-4) 0 mo_cells mD mV)))))
set_option maxHeartbeats 4000000 in
set_option maxRecDepth 100000 in
theorem met_Mo_cell (l : Launch) (dC : Nat → ClassId) (dI : Nat → Nat → Nat) (cI cL cB : ClassId) (sz : Nat) (h_mo h_mD h_mV h_mK h_mA h_mB h_mW h_mN h_mQ h_mR h_mS h_mP h_mO h_mT h_mU : Nat) (mo_thrown : Int32) (mo_steps : Int64) (mo_cells : Int32) (mo_nodes : Int32) (mo_paragraphs : Int32) (mo_waiting : Int32) (mo_at : Int32) (mo_high : Int32) (mo_begun : Int32) (mo_raised : Int32) (mo_next : Int32) (mo_isSpent : Int32) (mo_result : Int64) (mo_fails : Int32) (mD : (Nat → Int32)) (mV : (Nat → Int64)) (a1 : Int32) (a2 : Int64) (post : Int32 → Int32 → Int32 → (Nat → Int32) → (Nat → Int64) → Prop) (hw : wp_Mo_cell post mo_thrown mo_steps mo_cells mo_nodes mo_paragraphs mo_waiting mo_at mo_high mo_begun mo_raised mo_next mo_isSpent mo_result mo_fails mD mV a1 a2) : Met l yMo_cell wsMo_cell ({ frames := 1, cells := 0, slots := 0, locals := 25 } : Room) (va_Pc [.ref h_mo, .int a1, .long a2] (fun U => U.heap.size = sz ∧ va_P (dC, dI) vwCl [(h_mo, .inr (9, [.int mo_thrown, .long mo_steps, .int mo_cells, .int mo_nodes, .int mo_paragraphs, .int mo_waiting, .ref h_mD, .ref h_mV, .ref h_mK, .ref h_mA, .ref h_mB, .ref h_mW, .ref h_mN, .ref h_mQ, .ref h_mR, .ref h_mS, .int mo_at, .int mo_high, .int mo_begun, .int mo_raised, .int mo_next, .int mo_isSpent, .long mo_result, .ref h_mP, .ref h_mO, .ref h_mT, .ref h_mU, .int mo_fails])), (h_mD, .inl (cI, 40, .inl mD)), (h_mV, .inl (cL, 40, .inr (.inl mV)))] U.heap ∧ KK dC dI cI cL cB U ∧ va_D (fun _ => True) [(h_mo, .inr (9, [.int mo_thrown, .long mo_steps, .int mo_cells, .int mo_nodes, .int mo_paragraphs, .int mo_waiting, .ref h_mD, .ref h_mV, .ref h_mK, .ref h_mA, .ref h_mB, .ref h_mW, .ref h_mN, .ref h_mQ, .ref h_mR, .ref h_mS, .int mo_at, .int mo_high, .int mo_begun, .int mo_raised, .int mo_next, .int mo_isSpent, .long mo_result, .ref h_mP, .ref h_mO, .ref h_mT, .ref h_mU, .int mo_fails])), (h_mD, .inl (cI, 40, .inl mD)), (h_mV, .inl (cL, 40, .inr (.inl mV)))])) (va_Qi (fun (r : Int32) (u : Int32 × Int32 × (Nat → Int32) × (Nat → Int64)) => post r u.1 u.2.1 u.2.2.1 u.2.2.2) (fun (u : Int32 × Int32 × (Nat → Int32) × (Nat → Int64)) t => va_P (dC, dI) vwCl [(h_mo, .inr (9, [.int u.1, .long mo_steps, .int u.2.1, .int mo_nodes, .int mo_paragraphs, .int mo_waiting, .ref h_mD, .ref h_mV, .ref h_mK, .ref h_mA, .ref h_mB, .ref h_mW, .ref h_mN, .ref h_mQ, .ref h_mR, .ref h_mS, .int mo_at, .int mo_high, .int mo_begun, .int mo_raised, .int mo_next, .int mo_isSpent, .long mo_result, .ref h_mP, .ref h_mO, .ref h_mT, .ref h_mU, .int mo_fails])), (h_mD, .inl (cI, 40, .inl u.2.2.1)), (h_mV, .inl (cL, 40, .inr (.inl u.2.2.2)))] t.heap ∧ va_D (va_A [(h_mo, .inr (9, [.int mo_thrown, .long mo_steps, .int mo_cells, .int mo_nodes, .int mo_paragraphs, .int mo_waiting, .ref h_mD, .ref h_mV, .ref h_mK, .ref h_mA, .ref h_mB, .ref h_mW, .ref h_mN, .ref h_mQ, .ref h_mR, .ref h_mS, .int mo_at, .int mo_high, .int mo_begun, .int mo_raised, .int mo_next, .int mo_isSpent, .long mo_result, .ref h_mP, .ref h_mO, .ref h_mT, .ref h_mU, .int mo_fails])), (h_mD, .inl (cI, 40, .inl mD)), (h_mV, .inl (cL, 40, .inr (.inl mV)))] sz) [(h_mo, .inr (9, [.int u.1, .long mo_steps, .int u.2.1, .int mo_nodes, .int mo_paragraphs, .int mo_waiting, .ref h_mD, .ref h_mV, .ref h_mK, .ref h_mA, .ref h_mB, .ref h_mW, .ref h_mN, .ref h_mQ, .ref h_mR, .ref h_mS, .int mo_at, .int mo_high, .int mo_begun, .int mo_raised, .int mo_next, .int mo_isSpent, .long mo_result, .ref h_mP, .ref h_mO, .ref h_mT, .ref h_mU, .int mo_fails])), (h_mD, .inl (cI, 40, .inl u.2.2.1)), (h_mV, .inl (cL, 40, .inr (.inl u.2.2.2)))]) (va_A [(h_mo, .inr (9, [.int mo_thrown, .long mo_steps, .int mo_cells, .int mo_nodes, .int mo_paragraphs, .int mo_waiting, .ref h_mD, .ref h_mV, .ref h_mK, .ref h_mA, .ref h_mB, .ref h_mW, .ref h_mN, .ref h_mQ, .ref h_mR, .ref h_mS, .int mo_at, .int mo_high, .int mo_begun, .int mo_raised, .int mo_next, .int mo_isSpent, .long mo_result, .ref h_mP, .ref h_mO, .ref h_mT, .ref h_mU, .int mo_fails])), (h_mD, .inl (cI, 40, .inl mD)), (h_mV, .inl (cL, 40, .inr (.inl mV)))] sz)) 0 0 (va_A [(h_mo, .inr (9, [.int mo_thrown, .long mo_steps, .int mo_cells, .int mo_nodes, .int mo_paragraphs, .int mo_waiting, .ref h_mD, .ref h_mV, .ref h_mK, .ref h_mA, .ref h_mB, .ref h_mW, .ref h_mN, .ref h_mQ, .ref h_mR, .ref h_mS, .int mo_at, .int mo_high, .int mo_begun, .int mo_raised, .int mo_next, .int mo_isSpent, .long mo_result, .ref h_mP, .ref h_mO, .ref h_mT, .ref h_mU, .int mo_fails])), (h_mD, .inl (cI, 40, .inl mD)), (h_mV, .inl (cL, 40, .inr (.inl mV)))] sz) := by
  refine Met.ofW (cc := cMo_cell) (maxL := 4) (ret := (some .int)) (by decide) rfl ?_
  intro p e s m args below meth c s₁ B hml hv
  obtain ⟨rfl, hsz, hP, hK, hD0⟩ := hv
  have hx := B.exec
  have hb := B.bytes
  have hr := B.returns
  have hts := atoms_spec (ws := wsMo_cell) B.pre
  have hown : s.vm.findClass RMo = some m.cls := findClass_of_methodNamed B.named
  have hlocks := B.notSynchronized
  subst hsz
  have hD := hD0.self (sz := s.heap.size)
  generalize hAe : va_A [(h_mo, .inr (9, [.int mo_thrown, .long mo_steps, .int mo_cells, .int mo_nodes, .int mo_paragraphs, .int mo_waiting, .ref h_mD, .ref h_mV, .ref h_mK, .ref h_mA, .ref h_mB, .ref h_mW, .ref h_mN, .ref h_mQ, .ref h_mR, .ref h_mS, .int mo_at, .int mo_high, .int mo_begun, .int mo_raised, .int mo_next, .int mo_isSpent, .long mo_result, .ref h_mP, .ref h_mO, .ref h_mT, .ref h_mU, .int mo_fails])), (h_mD, .inl (cI, 40, .inl mD)), (h_mV, .inl (cL, 40, .inr (.inl mV)))] s.heap.size = A at hD ⊢
  have hA : ∀ q : Nat, s.heap.size ≤ q → A q := fun q h => by rw [← hAe]; exact Or.inr h
  have hS : va_S A s.heap s.heap [] := va_S.rf
  have hP : va_P (dC, dI) vwCl [(h_mo, .inr (9, [.int mo_thrown, .long mo_steps, .int mo_cells, .int mo_nodes, .int mo_paragraphs, .int mo_waiting, .ref h_mD, .ref h_mV, .ref h_mK, .ref h_mA, .ref h_mB, .ref h_mW, .ref h_mN, .ref h_mQ, .ref h_mR, .ref h_mS, .int mo_at, .int mo_high, .int mo_begun, .int mo_raised, .int mo_next, .int mo_isSpent, .long mo_result, .ref h_mP, .ref h_mO, .ref h_mT, .ref h_mU, .int mo_fails])), (h_mD, .inl (cI, 40, .inl mD)), (h_mV, .inl (cL, 40, .inr (.inl mV)))] s.heap := hP
  have htb : ∀ w ∈ TB, w.before _ s = true := fun w h => hts w (List.mem_cons_of_mem _ h)
  have hf_7 := htb _ kw_693
  have hf_13 := htb _ kw_694
  have hf_63 := htb _ kw_687
  have hf_69 := htb _ kw_689
  have hl := lv_entry ([.ref h_mo, .int a1, .long a2]) (n := 4) (Nat.le_of_ble_eq_true rfl)
  rw [lg_entry_eq]
  generalize (lg_sl ([.ref h_mo, .int a1, .long a2]) ++ List.replicate (4 - (lg_sl ([.ref h_mo, .int a1, .long a2])).length) Slot.unset).toArray = ls at hl ⊢
  have hl : lv_has ls 4 [(0, .ref h_mo), (1, .int a1), (2, .long a2)] := hl
  unfold wp_Mo_cell at hw
  refine lv_aload_n hx hb dMo_cell_0 rfl (lv_at hl 0 rfl) ?_
  refine lv_iconst (v := 0) hx hb dMo_cell_1 (by decide) ?_
  refine va_put (D := (dC, dI)) (ci := 9) (v := .int 0) (ty := .int) (C := RMo) (T := TMo) (N := 28) hx hb htb in_Mo tyMo tyMo_ok nmMo hown hK.1 hP hD hS 0 rfl rfl 0 (by decide) hf_63 (fun _ h9 => h9) rfl (by decide +kernel) rfl rfl (Nat.le_of_ble_eq_true rfl) dMo_cell_2 (fun H locs hP hD hS => ?_)
  have hP : va_P (dC, dI) vwCl [(h_mo, .inr (9, [.int 0, .long mo_steps, .int mo_cells, .int mo_nodes, .int mo_paragraphs, .int mo_waiting, .ref h_mD, .ref h_mV, .ref h_mK, .ref h_mA, .ref h_mB, .ref h_mW, .ref h_mN, .ref h_mQ, .ref h_mR, .ref h_mS, .int mo_at, .int mo_high, .int mo_begun, .int mo_raised, .int mo_next, .int mo_isSpent, .long mo_result, .ref h_mP, .ref h_mO, .ref h_mT, .ref h_mU, .int mo_fails])), (h_mD, .inl (cI, 40, .inl mD)), (h_mV, .inl (cL, 40, .inr (.inl mV)))] H := hP
  have hD : va_D A [(h_mo, .inr (9, [.int 0, .long mo_steps, .int mo_cells, .int mo_nodes, .int mo_paragraphs, .int mo_waiting, .ref h_mD, .ref h_mV, .ref h_mK, .ref h_mA, .ref h_mB, .ref h_mW, .ref h_mN, .ref h_mQ, .ref h_mR, .ref h_mS, .int mo_at, .int mo_high, .int mo_begun, .int mo_raised, .int mo_next, .int mo_isSpent, .long mo_result, .ref h_mP, .ref h_mO, .ref h_mT, .ref h_mU, .int mo_fails])), (h_mD, .inl (cI, 40, .inl mD)), (h_mV, .inl (cL, 40, .inr (.inl mV)))] := hD
  refine lv_iload_n hx hb dMo_cell_5 rfl (lv_at hl 1 rfl) ?_
  refine lv_iconst (v := 1) hx hb dMo_cell_6 (by decide) ?_
  refine lv_icmp_lt (tgt := 16) hx hb dMo_cell_7 (by decide) (fun c_7 => ?_) (fun c_7 => ?_)
  · have hw := hw.1 c_7
    refine lv_bipush (v := (-4)) hx hb dMo_cell_16 (by decide +kernel) ?_
    have hP9 := hP.sub (ws' := [(h_mo, .inr (9, [.int 0, .long mo_steps, .int mo_cells, .int mo_nodes, .int mo_paragraphs, .int mo_waiting, .ref h_mD, .ref h_mV, .ref h_mK, .ref h_mA, .ref h_mB, .ref h_mW, .ref h_mN, .ref h_mQ, .ref h_mR, .ref h_mS, .int mo_at, .int mo_high, .int mo_begun, .int mo_raised, .int mo_next, .int mo_isSpent, .long mo_result, .ref h_mP, .ref h_mO, .ref h_mT, .ref h_mU, .int mo_fails])), (h_mD, .inl (cI, 40, .inl mD)), (h_mV, .inl (cL, 40, .inr (.inl mV)))]) [0, 1, 2] rfl
    have hD9 := hD.sub (ws' := [(h_mo, .inr (9, [.int 0, .long mo_steps, .int mo_cells, .int mo_nodes, .int mo_paragraphs, .int mo_waiting, .ref h_mD, .ref h_mV, .ref h_mK, .ref h_mA, .ref h_mB, .ref h_mW, .ref h_mN, .ref h_mQ, .ref h_mR, .ref h_mS, .int mo_at, .int mo_high, .int mo_begun, .int mo_raised, .int mo_next, .int mo_isSpent, .long mo_result, .ref h_mP, .ref h_mO, .ref h_mT, .ref h_mU, .int mo_fails])), (h_mD, .inl (cI, 40, .inl mD)), (h_mV, .inl (cL, 40, .inr (.inl mV)))]) [0, 1, 2] (by decide) rfl
    exact W.iret (v := (-4)) hx hb hr (fun t ht hW => ⟨⟨_, (0, mo_cells, mD, mV), rfl, hw, by rw [ht]; exact hP9, hD9⟩, hS.F ht⟩) hS.2.2 dMo_cell_18
  · have hw := hw.2 c_7
    refine lv_iload_n hx hb dMo_cell_10 rfl (lv_at hl 1 rfl) ?_
    refine lv_bipush (v := 18) hx hb dMo_cell_11 (by decide +kernel) ?_
    refine lv_icmp_le (tgt := 19) hx hb dMo_cell_13 (by decide) (fun c_13 => ?_) (fun c_13 => ?_)
    · have hw := hw.1 c_13
      refine lv_aload_n hx hb dMo_cell_19 rfl (lv_at hl 0 rfl) ?_
      refine va_get (D := (dC, dI)) (ci := 9) (v := .int mo_cells) (C := RMo) (T := TMo) (N := 28) hx hb htb in_Mo hown hK.1 hP 0 rfl rfl 2 (by decide) hf_69 (fun _ h9 => h9) rfl dMo_cell_20 ?_
      refine lv_bipush (v := 40) hx hb dMo_cell_23 (by decide +kernel) ?_
      refine lv_icmp_ne (tgt := 30) hx hb dMo_cell_25 (by decide) (fun c_25 => ?_) (fun c_25 => ?_)
      · have hw := hw.1 c_25
        refine lv_aload_n hx hb dMo_cell_30 rfl (lv_at hl 0 rfl) ?_
        refine va_get (D := (dC, dI)) (ci := 9) (v := .ref h_mD) (C := RMo) (T := TMo) (N := 28) hx hb htb in_Mo hown hK.1 hP 0 rfl rfl 6 (by decide) hf_7 (fun _ h9 => h9) rfl dMo_cell_31 ?_
        refine lv_aload_n hx hb dMo_cell_34 rfl (lv_at hl 0 rfl) ?_
        refine va_get (D := (dC, dI)) (ci := 9) (v := .int mo_cells) (C := RMo) (T := TMo) (N := 28) hx hb htb in_Mo hown hK.1 hP 0 rfl rfl 2 (by decide) hf_69 (fun _ h9 => h9) rfl dMo_cell_35 ?_
        refine lv_iload_n hx hb dMo_cell_38 rfl (lv_at hl 1 rfl) ?_
        obtain ⟨hin, hw⟩ := hw
        refine va_iast hx hb hK.1 hP hD hS 1 0 rfl rfl hin dMo_cell_39 (fun H locs hP hD hS => ?_)
        have hP : va_P (dC, dI) vwCl [(h_mo, .inr (9, [.int 0, .long mo_steps, .int mo_cells, .int mo_nodes, .int mo_paragraphs, .int mo_waiting, .ref h_mD, .ref h_mV, .ref h_mK, .ref h_mA, .ref h_mB, .ref h_mW, .ref h_mN, .ref h_mQ, .ref h_mR, .ref h_mS, .int mo_at, .int mo_high, .int mo_begun, .int mo_raised, .int mo_next, .int mo_isSpent, .long mo_result, .ref h_mP, .ref h_mO, .ref h_mT, .ref h_mU, .int mo_fails])), (h_mD, .inl (cI, 40, .inl (upd mD mo_cells.toNatClampNeg a1))), (h_mV, .inl (cL, 40, .inr (.inl mV)))] H := hP
        have hD : va_D A [(h_mo, .inr (9, [.int 0, .long mo_steps, .int mo_cells, .int mo_nodes, .int mo_paragraphs, .int mo_waiting, .ref h_mD, .ref h_mV, .ref h_mK, .ref h_mA, .ref h_mB, .ref h_mW, .ref h_mN, .ref h_mQ, .ref h_mR, .ref h_mS, .int mo_at, .int mo_high, .int mo_begun, .int mo_raised, .int mo_next, .int mo_isSpent, .long mo_result, .ref h_mP, .ref h_mO, .ref h_mT, .ref h_mU, .int mo_fails])), (h_mD, .inl (cI, 40, .inl (upd mD mo_cells.toNatClampNeg a1))), (h_mV, .inl (cL, 40, .inr (.inl mV)))] := hD
        refine lv_aload_n hx hb dMo_cell_40 rfl (lv_at hl 0 rfl) ?_
        refine va_get (D := (dC, dI)) (ci := 9) (v := .ref h_mV) (C := RMo) (T := TMo) (N := 28) hx hb htb in_Mo hown hK.1 hP 0 rfl rfl 7 (by decide) hf_13 (fun _ h9 => h9) rfl dMo_cell_41 ?_
        refine lv_aload_n hx hb dMo_cell_44 rfl (lv_at hl 0 rfl) ?_
        refine va_get (D := (dC, dI)) (ci := 9) (v := .int mo_cells) (C := RMo) (T := TMo) (N := 28) hx hb htb in_Mo hown hK.1 hP 0 rfl rfl 2 (by decide) hf_69 (fun _ h9 => h9) rfl dMo_cell_45 ?_
        refine lv_iload_n hx hb dMo_cell_48 rfl (lv_at hl 1 rfl) ?_
        refine lv_lload_n hx hb dMo_cell_49 rfl (lv_at hl 2 rfl) ?_
        refine ro_cl (va_runS (As := [.int a1, .long a2]) (rest := [.int mo_cells, .ref h_mV]) ⟨hx, hb, hml, hown, htb⟩ (met_Mo_cut l dC dI cI cL cB a1 a2 _ hw) (va_cwS 2 htb (gdS kw_780 kw_781 kw_48 kw_782) rfl rfl rfl (by decide +kernel) ⟨Nat.le_of_ble_eq_true rfl, Nat.le_of_ble_eq_true rfl⟩) ⟨fun a U g mk q => by obtain ⟨q0, qP, qK⟩ := q; exact ⟨q0, qP, KK_c qK⟩, fun U hU hW => ⟨rfl, by rw [hU]; exact fun k q h => by simp at h, KK_w hW hK⟩⟩ rfl rfl hl.1 rfl (lv_room (Nat.le_of_ble_eq_true rfl)) dMo_cell_50 ⟨Nat.zero_le _, Nat.zero_le _⟩) (fun r_50 hw => ?_)
        try dsimp only at hw
        obtain ⟨hin, hw⟩ := hw
        refine va_last hx hb hK.1 hP hD hS 2 1 rfl rfl hin dMo_cell_53 (fun H locs hP hD hS => ?_)
        have hP : va_P (dC, dI) vwCl [(h_mo, .inr (9, [.int 0, .long mo_steps, .int mo_cells, .int mo_nodes, .int mo_paragraphs, .int mo_waiting, .ref h_mD, .ref h_mV, .ref h_mK, .ref h_mA, .ref h_mB, .ref h_mW, .ref h_mN, .ref h_mQ, .ref h_mR, .ref h_mS, .int mo_at, .int mo_high, .int mo_begun, .int mo_raised, .int mo_next, .int mo_isSpent, .long mo_result, .ref h_mP, .ref h_mO, .ref h_mT, .ref h_mU, .int mo_fails])), (h_mD, .inl (cI, 40, .inl (upd mD mo_cells.toNatClampNeg a1))), (h_mV, .inl (cL, 40, .inr (.inl (vp_updL mV mo_cells.toNatClampNeg r_50))))] H := hP
        have hD : va_D A [(h_mo, .inr (9, [.int 0, .long mo_steps, .int mo_cells, .int mo_nodes, .int mo_paragraphs, .int mo_waiting, .ref h_mD, .ref h_mV, .ref h_mK, .ref h_mA, .ref h_mB, .ref h_mW, .ref h_mN, .ref h_mQ, .ref h_mR, .ref h_mS, .int mo_at, .int mo_high, .int mo_begun, .int mo_raised, .int mo_next, .int mo_isSpent, .long mo_result, .ref h_mP, .ref h_mO, .ref h_mT, .ref h_mU, .int mo_fails])), (h_mD, .inl (cI, 40, .inl (upd mD mo_cells.toNatClampNeg a1))), (h_mV, .inl (cL, 40, .inr (.inl (vp_updL mV mo_cells.toNatClampNeg r_50))))] := hD
        refine lv_aload_n hx hb dMo_cell_54 rfl (lv_at hl 0 rfl) ?_
        refine lv_dup hx hb dMo_cell_55 rfl ?_
        refine va_get (D := (dC, dI)) (ci := 9) (v := .int mo_cells) (C := RMo) (T := TMo) (N := 28) hx hb htb in_Mo hown hK.1 hP 0 rfl rfl 2 (by decide) hf_69 (fun _ h9 => h9) rfl dMo_cell_56 ?_
        refine lv_iconst (v := 1) hx hb dMo_cell_59 (by decide) ?_
        refine lv_iadd hx hb dMo_cell_60 ?_
        refine va_put (D := (dC, dI)) (ci := 9) (v := .int (mo_cells + 1)) (ty := .int) (C := RMo) (T := TMo) (N := 28) hx hb htb in_Mo tyMo tyMo_ok nmMo hown hK.1 hP hD hS 0 rfl rfl 2 (by decide) hf_69 (fun _ h9 => h9) rfl (by decide +kernel) rfl rfl (Nat.le_of_ble_eq_true rfl) dMo_cell_61 (fun H locs hP hD hS => ?_)
        have hP : va_P (dC, dI) vwCl [(h_mo, .inr (9, [.int 0, .long mo_steps, .int (mo_cells + 1), .int mo_nodes, .int mo_paragraphs, .int mo_waiting, .ref h_mD, .ref h_mV, .ref h_mK, .ref h_mA, .ref h_mB, .ref h_mW, .ref h_mN, .ref h_mQ, .ref h_mR, .ref h_mS, .int mo_at, .int mo_high, .int mo_begun, .int mo_raised, .int mo_next, .int mo_isSpent, .long mo_result, .ref h_mP, .ref h_mO, .ref h_mT, .ref h_mU, .int mo_fails])), (h_mD, .inl (cI, 40, .inl (upd mD mo_cells.toNatClampNeg a1))), (h_mV, .inl (cL, 40, .inr (.inl (vp_updL mV mo_cells.toNatClampNeg r_50))))] H := hP
        have hD : va_D A [(h_mo, .inr (9, [.int 0, .long mo_steps, .int (mo_cells + 1), .int mo_nodes, .int mo_paragraphs, .int mo_waiting, .ref h_mD, .ref h_mV, .ref h_mK, .ref h_mA, .ref h_mB, .ref h_mW, .ref h_mN, .ref h_mQ, .ref h_mR, .ref h_mS, .int mo_at, .int mo_high, .int mo_begun, .int mo_raised, .int mo_next, .int mo_isSpent, .long mo_result, .ref h_mP, .ref h_mO, .ref h_mT, .ref h_mU, .int mo_fails])), (h_mD, .inl (cI, 40, .inl (upd mD mo_cells.toNatClampNeg a1))), (h_mV, .inl (cL, 40, .inr (.inl (vp_updL mV mo_cells.toNatClampNeg r_50))))] := hD
        refine lv_aload_n hx hb dMo_cell_64 rfl (lv_at hl 0 rfl) ?_
        refine va_get (D := (dC, dI)) (ci := 9) (v := .int (mo_cells + 1)) (C := RMo) (T := TMo) (N := 28) hx hb htb in_Mo hown hK.1 hP 0 rfl rfl 2 (by decide) hf_69 (fun _ h9 => h9) rfl dMo_cell_65 ?_
        refine lv_iconst (v := 1) hx hb dMo_cell_68 (by decide) ?_
        refine lv_isub hx hb dMo_cell_69 ?_
        have hP9 := hP.sub (ws' := [(h_mo, .inr (9, [.int 0, .long mo_steps, .int (mo_cells + 1), .int mo_nodes, .int mo_paragraphs, .int mo_waiting, .ref h_mD, .ref h_mV, .ref h_mK, .ref h_mA, .ref h_mB, .ref h_mW, .ref h_mN, .ref h_mQ, .ref h_mR, .ref h_mS, .int mo_at, .int mo_high, .int mo_begun, .int mo_raised, .int mo_next, .int mo_isSpent, .long mo_result, .ref h_mP, .ref h_mO, .ref h_mT, .ref h_mU, .int mo_fails])), (h_mD, .inl (cI, 40, .inl (upd mD mo_cells.toNatClampNeg a1))), (h_mV, .inl (cL, 40, .inr (.inl (vp_updL mV mo_cells.toNatClampNeg r_50))))]) [0, 1, 2] rfl
        have hD9 := hD.sub (ws' := [(h_mo, .inr (9, [.int 0, .long mo_steps, .int (mo_cells + 1), .int mo_nodes, .int mo_paragraphs, .int mo_waiting, .ref h_mD, .ref h_mV, .ref h_mK, .ref h_mA, .ref h_mB, .ref h_mW, .ref h_mN, .ref h_mQ, .ref h_mR, .ref h_mS, .int mo_at, .int mo_high, .int mo_begun, .int mo_raised, .int mo_next, .int mo_isSpent, .long mo_result, .ref h_mP, .ref h_mO, .ref h_mT, .ref h_mU, .int mo_fails])), (h_mD, .inl (cI, 40, .inl (upd mD mo_cells.toNatClampNeg a1))), (h_mV, .inl (cL, 40, .inr (.inl (vp_updL mV mo_cells.toNatClampNeg r_50))))]) [0, 1, 2] (by decide) rfl
        exact W.iret (v := ((mo_cells + 1) - 1)) hx hb hr (fun t ht hW => ⟨⟨_, (0, (mo_cells + 1), (upd mD mo_cells.toNatClampNeg a1), (vp_updL mV mo_cells.toNatClampNeg r_50)), rfl, hw, by rw [ht]; exact hP9, hD9⟩, hS.F ht⟩) hS.2.2 dMo_cell_70
      · have hw := hw.2 c_25
        refine lv_iconst (v := (-1)) hx hb dMo_cell_28 (by decide) ?_
        have hP9 := hP.sub (ws' := [(h_mo, .inr (9, [.int 0, .long mo_steps, .int mo_cells, .int mo_nodes, .int mo_paragraphs, .int mo_waiting, .ref h_mD, .ref h_mV, .ref h_mK, .ref h_mA, .ref h_mB, .ref h_mW, .ref h_mN, .ref h_mQ, .ref h_mR, .ref h_mS, .int mo_at, .int mo_high, .int mo_begun, .int mo_raised, .int mo_next, .int mo_isSpent, .long mo_result, .ref h_mP, .ref h_mO, .ref h_mT, .ref h_mU, .int mo_fails])), (h_mD, .inl (cI, 40, .inl mD)), (h_mV, .inl (cL, 40, .inr (.inl mV)))]) [0, 1, 2] rfl
        have hD9 := hD.sub (ws' := [(h_mo, .inr (9, [.int 0, .long mo_steps, .int mo_cells, .int mo_nodes, .int mo_paragraphs, .int mo_waiting, .ref h_mD, .ref h_mV, .ref h_mK, .ref h_mA, .ref h_mB, .ref h_mW, .ref h_mN, .ref h_mQ, .ref h_mR, .ref h_mS, .int mo_at, .int mo_high, .int mo_begun, .int mo_raised, .int mo_next, .int mo_isSpent, .long mo_result, .ref h_mP, .ref h_mO, .ref h_mT, .ref h_mU, .int mo_fails])), (h_mD, .inl (cI, 40, .inl mD)), (h_mV, .inl (cL, 40, .inr (.inl mV)))]) [0, 1, 2] (by decide) rfl
        exact W.iret (v := (-1)) hx hb hr (fun t ht hW => ⟨⟨_, (0, mo_cells, mD, mV), rfl, hw, by rw [ht]; exact hP9, hD9⟩, hS.F ht⟩) hS.2.2 dMo_cell_29
    · have hw := hw.2 c_13
      refine lv_bipush (v := (-4)) hx hb dMo_cell_16 (by decide +kernel) ?_
      have hP9 := hP.sub (ws' := [(h_mo, .inr (9, [.int 0, .long mo_steps, .int mo_cells, .int mo_nodes, .int mo_paragraphs, .int mo_waiting, .ref h_mD, .ref h_mV, .ref h_mK, .ref h_mA, .ref h_mB, .ref h_mW, .ref h_mN, .ref h_mQ, .ref h_mR, .ref h_mS, .int mo_at, .int mo_high, .int mo_begun, .int mo_raised, .int mo_next, .int mo_isSpent, .long mo_result, .ref h_mP, .ref h_mO, .ref h_mT, .ref h_mU, .int mo_fails])), (h_mD, .inl (cI, 40, .inl mD)), (h_mV, .inl (cL, 40, .inr (.inl mV)))]) [0, 1, 2] rfl
      have hD9 := hD.sub (ws' := [(h_mo, .inr (9, [.int 0, .long mo_steps, .int mo_cells, .int mo_nodes, .int mo_paragraphs, .int mo_waiting, .ref h_mD, .ref h_mV, .ref h_mK, .ref h_mA, .ref h_mB, .ref h_mW, .ref h_mN, .ref h_mQ, .ref h_mR, .ref h_mS, .int mo_at, .int mo_high, .int mo_begun, .int mo_raised, .int mo_next, .int mo_isSpent, .long mo_result, .ref h_mP, .ref h_mO, .ref h_mT, .ref h_mU, .int mo_fails])), (h_mD, .inl (cI, 40, .inl mD)), (h_mV, .inl (cL, 40, .inr (.inl mV)))]) [0, 1, 2] (by decide) rfl
      exact W.iret (v := (-4)) hx hb hr (fun t ht hW => ⟨⟨_, (0, mo_cells, mD, mV), rfl, hw, by rw [ht]; exact hP9, hD9⟩, hS.F ht⟩) hS.2.2 dMo_cell_18
def wp_Mo_isKind (post : Int32 → Prop) (mo_thrown : Int32) (mo_steps : Int64) (mo_cells : Int32) (mo_nodes : Int32) (mo_paragraphs : Int32) (mo_waiting : Int32) (mo_at : Int32) (mo_high : Int32) (mo_begun : Int32) (mo_raised : Int32) (mo_next : Int32) (mo_isSpent : Int32) (mo_result : Int64) (mo_fails : Int32) (mK : (Nat → Int32)) (a1 : Int32) (a2 : Int32) : Prop := ((a1 ≤ 0 → (post 0)) ∧ (¬ a1 ≤ 0 → ((mo_nodes < a1 → (post 0)) ∧ (¬ mo_nodes < a1 → (vp_in a1 201 ∧ ((¬ (mK a1.toNatClampNeg) = a2 → (post 0)) ∧ ((mK a1.toNatClampNeg) = a2 → (post 1))))))))
set_option maxHeartbeats 4000000 in
set_option maxRecDepth 100000 in
theorem met_Mo_isKind (l : Launch) (dC : Nat → ClassId) (dI : Nat → Nat → Nat) (cI cL cB : ClassId) (h_mo h_mD h_mV h_mK h_mA h_mB h_mW h_mN h_mQ h_mR h_mS h_mP h_mO h_mT h_mU : Nat) (mo_thrown : Int32) (mo_steps : Int64) (mo_cells : Int32) (mo_nodes : Int32) (mo_paragraphs : Int32) (mo_waiting : Int32) (mo_at : Int32) (mo_high : Int32) (mo_begun : Int32) (mo_raised : Int32) (mo_next : Int32) (mo_isSpent : Int32) (mo_result : Int64) (mo_fails : Int32) (mK : (Nat → Int32)) (a1 : Int32) (a2 : Int32) (post : Int32 → Prop) (hw : wp_Mo_isKind post mo_thrown mo_steps mo_cells mo_nodes mo_paragraphs mo_waiting mo_at mo_high mo_begun mo_raised mo_next mo_isSpent mo_result mo_fails mK a1 a2) : Met l yMo_isKind wsMo_isKind ({ frames := 0, cells := 0, slots := 0, locals := 0 } : Room) (va_Pc [.ref h_mo, .int a1, .int a2] (fun U => va_P (dC, dI) vwCl [(h_mo, .inr (9, [.int mo_thrown, .long mo_steps, .int mo_cells, .int mo_nodes, .int mo_paragraphs, .int mo_waiting, .ref h_mD, .ref h_mV, .ref h_mK, .ref h_mA, .ref h_mB, .ref h_mW, .ref h_mN, .ref h_mQ, .ref h_mR, .ref h_mS, .int mo_at, .int mo_high, .int mo_begun, .int mo_raised, .int mo_next, .int mo_isSpent, .long mo_result, .ref h_mP, .ref h_mO, .ref h_mT, .ref h_mU, .int mo_fails])), (h_mK, .inl (cI, 201, .inl mK))] U.heap ∧ KK dC dI cI cL cB U)) (ro_i post) 0 0 (fun _ => False) := by
  refine Met.ofW (cc := cMo_isKind) (maxL := 3) (ret := (some .boolean)) (by decide) rfl ?_
  intro p e s m args below meth c s₁ B hml hv
  obtain ⟨rfl, hP, hK⟩ := hv
  have hx := B.exec
  have hb := B.bytes
  have hr := B.returns
  have hts := atoms_spec (ws := wsMo_isKind) B.pre
  have hown : s.vm.findClass RMo = some m.cls := findClass_of_methodNamed B.named
  have hlocks := B.notSynchronized
  have hS : va_S (fun _ => False) s.heap s.heap [] := va_S.rf
  have htb : ∀ w ∈ TB, w.before _ s = true := fun w h => hts w (List.mem_cons_of_mem _ h)
  have hf_17 := htb _ kw_695
  have hf_76 := htb _ kw_690
  have hl := lv_entry ([.ref h_mo, .int a1, .int a2]) (n := 3) (Nat.le_of_ble_eq_true rfl)
  rw [lg_entry_eq]
  generalize (lg_sl ([.ref h_mo, .int a1, .int a2]) ++ List.replicate (3 - (lg_sl ([.ref h_mo, .int a1, .int a2])).length) Slot.unset).toArray = ls at hl ⊢
  have hl : lv_has ls 3 [(0, .ref h_mo), (1, .int a1), (2, .int a2)] := hl
  unfold wp_Mo_isKind at hw
  refine lv_iload_n hx hb dMo_isKind_0 rfl (lv_at hl 1 rfl) ?_
  refine lv_if_le (tgt := 26) hx hb dMo_isKind_1 (by decide) (fun c_1 => ?_) (fun c_1 => ?_)
  · have hw := hw.1 c_1
    refine lv_iconst (v := 0) hx hb dMo_isKind_26 (by decide) ?_
    exact W.zret (v := 0) hx hb hr (by decide) (fun t ht hW => ⟨_, rfl, hw, ht⟩) (fun q h => absurd h List.not_mem_nil) dMo_isKind_27
  · have hw := hw.2 c_1
    refine lv_iload_n hx hb dMo_isKind_4 rfl (lv_at hl 1 rfl) ?_
    refine lv_aload_n hx hb dMo_isKind_5 rfl (lv_at hl 0 rfl) ?_
    refine va_get (D := (dC, dI)) (ci := 9) (v := .int mo_nodes) (C := RMo) (T := TMo) (N := 28) hx hb htb in_Mo hown hK.1 hP 0 rfl rfl 3 (by decide) hf_76 (fun _ h9 => h9) rfl dMo_isKind_6 ?_
    refine lv_icmp_gt (tgt := 26) hx hb dMo_isKind_9 (by decide) (fun c_9 => ?_) (fun c_9 => ?_)
    · have hw := hw.1 c_9
      refine lv_iconst (v := 0) hx hb dMo_isKind_26 (by decide) ?_
      exact W.zret (v := 0) hx hb hr (by decide) (fun t ht hW => ⟨_, rfl, hw, ht⟩) (fun q h => absurd h List.not_mem_nil) dMo_isKind_27
    · have hw := hw.2 c_9
      refine lv_aload_n hx hb dMo_isKind_12 rfl (lv_at hl 0 rfl) ?_
      refine va_get (D := (dC, dI)) (ci := 9) (v := .ref h_mK) (C := RMo) (T := TMo) (N := 28) hx hb htb in_Mo hown hK.1 hP 0 rfl rfl 8 (by decide) hf_17 (fun _ h9 => h9) rfl dMo_isKind_13 ?_
      refine lv_iload_n hx hb dMo_isKind_16 rfl (lv_at hl 1 rfl) ?_
      obtain ⟨hin, hw⟩ := hw
      refine va_iald hx hb hK.1 hP 1 0 rfl rfl hin dMo_isKind_17 ?_
      refine lv_iload_n hx hb dMo_isKind_18 rfl (lv_at hl 2 rfl) ?_
      refine lv_icmp_ne (tgt := 26) hx hb dMo_isKind_19 (by decide) (fun c_19 => ?_) (fun c_19 => ?_)
      · have hw := hw.1 c_19
        refine lv_iconst (v := 0) hx hb dMo_isKind_26 (by decide) ?_
        exact W.zret (v := 0) hx hb hr (by decide) (fun t ht hW => ⟨_, rfl, hw, ht⟩) (fun q h => absurd h List.not_mem_nil) dMo_isKind_27
      · have hw := hw.2 c_19
        refine lv_iconst (v := 1) hx hb dMo_isKind_22 (by decide) ?_
        refine lv_goto (tgt := 27) hx hb dMo_isKind_23 (by decide) ?_
        exact W.zret (v := 1) hx hb hr (by decide) (fun t ht hW => ⟨_, rfl, hw, ht⟩) (fun q h => absurd h List.not_mem_nil) dMo_isKind_27
def wp_Mo_isValue (post : Int32 → Prop) (mo_thrown : Int32) (mo_steps : Int64) (mo_cells : Int32) (mo_nodes : Int32) (mo_paragraphs : Int32) (mo_waiting : Int32) (mo_at : Int32) (mo_high : Int32) (mo_begun : Int32) (mo_raised : Int32) (mo_next : Int32) (mo_isSpent : Int32) (mo_result : Int64) (mo_fails : Int32) (mK : (Nat → Int32)) (a1 : Int32) : Prop := ((a1 ≤ 0 → (post 0)) ∧ (¬ a1 ≤ 0 → ((mo_nodes < a1 → (post 0)) ∧ (¬ mo_nodes < a1 → (vp_in a1 201 ∧ ((8 ≤ (mK a1.toNatClampNeg) → (post 0)) ∧ (¬ 8 ≤ (mK a1.toNatClampNeg) → (post 1))))))))
set_option maxHeartbeats 4000000 in
set_option maxRecDepth 100000 in
theorem met_Mo_isValue (l : Launch) (dC : Nat → ClassId) (dI : Nat → Nat → Nat) (cI cL cB : ClassId) (h_mo h_mD h_mV h_mK h_mA h_mB h_mW h_mN h_mQ h_mR h_mS h_mP h_mO h_mT h_mU : Nat) (mo_thrown : Int32) (mo_steps : Int64) (mo_cells : Int32) (mo_nodes : Int32) (mo_paragraphs : Int32) (mo_waiting : Int32) (mo_at : Int32) (mo_high : Int32) (mo_begun : Int32) (mo_raised : Int32) (mo_next : Int32) (mo_isSpent : Int32) (mo_result : Int64) (mo_fails : Int32) (mK : (Nat → Int32)) (a1 : Int32) (post : Int32 → Prop) (hw : wp_Mo_isValue post mo_thrown mo_steps mo_cells mo_nodes mo_paragraphs mo_waiting mo_at mo_high mo_begun mo_raised mo_next mo_isSpent mo_result mo_fails mK a1) : Met l yMo_isValue wsMo_isValue ({ frames := 0, cells := 0, slots := 0, locals := 0 } : Room) (va_Pc [.ref h_mo, .int a1] (fun U => va_P (dC, dI) vwCl [(h_mo, .inr (9, [.int mo_thrown, .long mo_steps, .int mo_cells, .int mo_nodes, .int mo_paragraphs, .int mo_waiting, .ref h_mD, .ref h_mV, .ref h_mK, .ref h_mA, .ref h_mB, .ref h_mW, .ref h_mN, .ref h_mQ, .ref h_mR, .ref h_mS, .int mo_at, .int mo_high, .int mo_begun, .int mo_raised, .int mo_next, .int mo_isSpent, .long mo_result, .ref h_mP, .ref h_mO, .ref h_mT, .ref h_mU, .int mo_fails])), (h_mK, .inl (cI, 201, .inl mK))] U.heap ∧ KK dC dI cI cL cB U)) (ro_i post) 0 0 (fun _ => False) := by
  refine Met.ofW (cc := cMo_isValue) (maxL := 2) (ret := (some .boolean)) (by decide) rfl ?_
  intro p e s m args below meth c s₁ B hml hv
  obtain ⟨rfl, hP, hK⟩ := hv
  have hx := B.exec
  have hb := B.bytes
  have hr := B.returns
  have hts := atoms_spec (ws := wsMo_isValue) B.pre
  have hown : s.vm.findClass RMo = some m.cls := findClass_of_methodNamed B.named
  have hlocks := B.notSynchronized
  have hS : va_S (fun _ => False) s.heap s.heap [] := va_S.rf
  have htb : ∀ w ∈ TB, w.before _ s = true := fun w h => hts w (List.mem_cons_of_mem _ h)
  have hf_17 := htb _ kw_695
  have hf_76 := htb _ kw_690
  have hl := lv_entry ([.ref h_mo, .int a1]) (n := 2) (Nat.le_of_ble_eq_true rfl)
  rw [lg_entry_eq]
  generalize (lg_sl ([.ref h_mo, .int a1]) ++ List.replicate (2 - (lg_sl ([.ref h_mo, .int a1])).length) Slot.unset).toArray = ls at hl ⊢
  have hl : lv_has ls 2 [(0, .ref h_mo), (1, .int a1)] := hl
  unfold wp_Mo_isValue at hw
  refine lv_iload_n hx hb dMo_isValue_0 rfl (lv_at hl 1 rfl) ?_
  refine lv_if_le (tgt := 27) hx hb dMo_isValue_1 (by decide) (fun c_1 => ?_) (fun c_1 => ?_)
  · have hw := hw.1 c_1
    refine lv_iconst (v := 0) hx hb dMo_isValue_27 (by decide) ?_
    exact W.zret (v := 0) hx hb hr (by decide) (fun t ht hW => ⟨_, rfl, hw, ht⟩) (fun q h => absurd h List.not_mem_nil) dMo_isValue_28
  · have hw := hw.2 c_1
    refine lv_iload_n hx hb dMo_isValue_4 rfl (lv_at hl 1 rfl) ?_
    refine lv_aload_n hx hb dMo_isValue_5 rfl (lv_at hl 0 rfl) ?_
    refine va_get (D := (dC, dI)) (ci := 9) (v := .int mo_nodes) (C := RMo) (T := TMo) (N := 28) hx hb htb in_Mo hown hK.1 hP 0 rfl rfl 3 (by decide) hf_76 (fun _ h9 => h9) rfl dMo_isValue_6 ?_
    refine lv_icmp_gt (tgt := 27) hx hb dMo_isValue_9 (by decide) (fun c_9 => ?_) (fun c_9 => ?_)
    · have hw := hw.1 c_9
      refine lv_iconst (v := 0) hx hb dMo_isValue_27 (by decide) ?_
      exact W.zret (v := 0) hx hb hr (by decide) (fun t ht hW => ⟨_, rfl, hw, ht⟩) (fun q h => absurd h List.not_mem_nil) dMo_isValue_28
    · have hw := hw.2 c_9
      refine lv_aload_n hx hb dMo_isValue_12 rfl (lv_at hl 0 rfl) ?_
      refine va_get (D := (dC, dI)) (ci := 9) (v := .ref h_mK) (C := RMo) (T := TMo) (N := 28) hx hb htb in_Mo hown hK.1 hP 0 rfl rfl 8 (by decide) hf_17 (fun _ h9 => h9) rfl dMo_isValue_13 ?_
      refine lv_iload_n hx hb dMo_isValue_16 rfl (lv_at hl 1 rfl) ?_
      obtain ⟨hin, hw⟩ := hw
      refine va_iald hx hb hK.1 hP 1 0 rfl rfl hin dMo_isValue_17 ?_
      refine lv_bipush (v := 8) hx hb dMo_isValue_18 (by decide +kernel) ?_
      refine lv_icmp_ge (tgt := 27) hx hb dMo_isValue_20 (by decide) (fun c_20 => ?_) (fun c_20 => ?_)
      · have hw := hw.1 c_20
        refine lv_iconst (v := 0) hx hb dMo_isValue_27 (by decide) ?_
        exact W.zret (v := 0) hx hb hr (by decide) (fun t ht hW => ⟨_, rfl, hw, ht⟩) (fun q h => absurd h List.not_mem_nil) dMo_isValue_28
      · have hw := hw.2 c_20
        refine lv_iconst (v := 1) hx hb dMo_isValue_23 (by decide) ?_
        refine lv_goto (tgt := 28) hx hb dMo_isValue_24 (by decide) ?_
        exact W.zret (v := 1) hx hb hr (by decide) (fun t ht hW => ⟨_, rfl, hw, ht⟩) (fun q h => absurd h List.not_mem_nil) dMo_isValue_28
def wj_Mo_isStatement_34 (post : Int32 → Prop) (mo_thrown : Int32) (mo_steps : Int64) (mo_cells : Int32) (mo_nodes : Int32) (mo_paragraphs : Int32) (mo_waiting : Int32) (mo_at : Int32) (mo_high : Int32) (mo_begun : Int32) (mo_raised : Int32) (mo_next : Int32) (mo_isSpent : Int32) (mo_result : Int64) (mo_fails : Int32) (mK : (Nat → Int32)) (y1 : Int32) : Prop := (vp_in y1 201 ∧ (((mK y1.toNatClampNeg) = 14 → (post 1)) ∧ (¬ (mK y1.toNatClampNeg) = 14 → (vp_in y1 201 ∧ (((mK y1.toNatClampNeg) ≤ 16 → (post 0)) ∧ (¬ (mK y1.toNatClampNeg) ≤ 16 → (post 1)))))))
def wp_Mo_isStatement (post : Int32 → Prop) (mo_thrown : Int32) (mo_steps : Int64) (mo_cells : Int32) (mo_nodes : Int32) (mo_paragraphs : Int32) (mo_waiting : Int32) (mo_at : Int32) (mo_high : Int32) (mo_begun : Int32) (mo_raised : Int32) (mo_next : Int32) (mo_isSpent : Int32) (mo_result : Int64) (mo_fails : Int32) (mK : (Nat → Int32)) (a1 : Int32) : Prop := ((a1 ≤ 0 → (post 0)) ∧ (¬ a1 ≤ 0 → ((mo_nodes < a1 → (post 0)) ∧ (¬ mo_nodes < a1 → (vp_in a1 201 ∧ (((mK a1.toNatClampNeg) ≤ 8 → (wj_Mo_isStatement_34 post mo_thrown mo_steps mo_cells mo_nodes mo_paragraphs mo_waiting mo_at mo_high mo_begun mo_raised mo_next mo_isSpent mo_result mo_fails mK a1 )) ∧ (¬ (mK a1.toNatClampNeg) ≤ 8 → (vp_in a1 201 ∧ (((mK a1.toNatClampNeg) < 13 → (post 1)) ∧ (¬ (mK a1.toNatClampNeg) < 13 → (wj_Mo_isStatement_34 post mo_thrown mo_steps mo_cells mo_nodes mo_paragraphs mo_waiting mo_at mo_high mo_begun mo_raised mo_next mo_isSpent mo_result mo_fails mK a1 )))))))))))
set_option maxHeartbeats 4000000 in
set_option maxRecDepth 100000 in
theorem met_Mo_isStatement (l : Launch) (dC : Nat → ClassId) (dI : Nat → Nat → Nat) (cI cL cB : ClassId) (h_mo h_mD h_mV h_mK h_mA h_mB h_mW h_mN h_mQ h_mR h_mS h_mP h_mO h_mT h_mU : Nat) (mo_thrown : Int32) (mo_steps : Int64) (mo_cells : Int32) (mo_nodes : Int32) (mo_paragraphs : Int32) (mo_waiting : Int32) (mo_at : Int32) (mo_high : Int32) (mo_begun : Int32) (mo_raised : Int32) (mo_next : Int32) (mo_isSpent : Int32) (mo_result : Int64) (mo_fails : Int32) (mK : (Nat → Int32)) (a1 : Int32) (post : Int32 → Prop) (hw : wp_Mo_isStatement post mo_thrown mo_steps mo_cells mo_nodes mo_paragraphs mo_waiting mo_at mo_high mo_begun mo_raised mo_next mo_isSpent mo_result mo_fails mK a1) : Met l yMo_isStatement wsMo_isStatement ({ frames := 0, cells := 0, slots := 0, locals := 0 } : Room) (va_Pc [.ref h_mo, .int a1] (fun U => va_P (dC, dI) vwCl [(h_mo, .inr (9, [.int mo_thrown, .long mo_steps, .int mo_cells, .int mo_nodes, .int mo_paragraphs, .int mo_waiting, .ref h_mD, .ref h_mV, .ref h_mK, .ref h_mA, .ref h_mB, .ref h_mW, .ref h_mN, .ref h_mQ, .ref h_mR, .ref h_mS, .int mo_at, .int mo_high, .int mo_begun, .int mo_raised, .int mo_next, .int mo_isSpent, .long mo_result, .ref h_mP, .ref h_mO, .ref h_mT, .ref h_mU, .int mo_fails])), (h_mK, .inl (cI, 201, .inl mK))] U.heap ∧ KK dC dI cI cL cB U)) (ro_i post) 0 0 (fun _ => False) := by
  refine Met.ofW (cc := cMo_isStatement) (maxL := 2) (ret := (some .boolean)) (by decide) rfl ?_
  intro p e s m args below meth c s₁ B hml hv
  obtain ⟨rfl, hP, hK⟩ := hv
  have hx := B.exec
  have hb := B.bytes
  have hr := B.returns
  have hts := atoms_spec (ws := wsMo_isStatement) B.pre
  have hown : s.vm.findClass RMo = some m.cls := findClass_of_methodNamed B.named
  have hlocks := B.notSynchronized
  have hS : va_S (fun _ => False) s.heap s.heap [] := va_S.rf
  obtain ⟨Q, hQ⟩ : ∃ Q : State → Prop, Q = MQ below (ro_i post) ([.ref h_mo, .int a1] : List Value).toArray s 0 0 (fun _ => False) := ⟨_, rfl⟩
  rw [← hQ]
  have htb : ∀ w ∈ TB, w.before _ s = true := fun w h => hts w (List.mem_cons_of_mem _ h)
  have hf_17 := htb _ kw_695
  have hf_76 := htb _ kw_690
  have jn_34 : ∀ (y1 : Int32), wj_Mo_isStatement_34 post mo_thrown mo_steps mo_cells mo_nodes mo_paragraphs mo_waiting mo_at mo_high mo_begun mo_raised mo_next mo_isSpent mo_result mo_fails mK y1 → ∀ (ls : Array Slot), lv_has ls 2 [(0, .ref h_mo), (1, .int y1)] → W p l e (headSpec wsMo_isStatement ({ frames := 0, cells := 0, slots := 0, locals := 0 } : Room)).room s m ([.ref h_mo, .int a1] : List Value).toArray below meth c s.heap [] 0 0 Q (F0 m 34 ls []) := by
    intro y1 hw ls hl
    unfold wj_Mo_isStatement_34 at hw
    refine lv_aload_n hx hb dMo_isStatement_34 rfl (lv_at hl 0 rfl) ?_
    refine va_get (D := (dC, dI)) (ci := 9) (v := .ref h_mK) (C := RMo) (T := TMo) (N := 28) hx hb htb in_Mo hown hK.1 hP 0 rfl rfl 8 (by decide) hf_17 (fun _ h9 => h9) rfl dMo_isStatement_35 ?_
    refine lv_iload_n hx hb dMo_isStatement_38 rfl (lv_at hl 1 rfl) ?_
    obtain ⟨hin, hw⟩ := hw
    refine va_iald hx hb hK.1 hP 1 0 rfl rfl hin dMo_isStatement_39 ?_
    refine lv_bipush (v := 14) hx hb dMo_isStatement_40 (by decide +kernel) ?_
    refine lv_icmp_eq (tgt := 56) hx hb dMo_isStatement_42 (by decide) (fun c_42 => ?_) (fun c_42 => ?_)
    · have hw := hw.1 c_42
      refine lv_iconst (v := 1) hx hb dMo_isStatement_56 (by decide) ?_
      refine lv_goto (tgt := 61) hx hb dMo_isStatement_57 (by decide) ?_
      rw [hQ]
      exact W.zret (v := 1) hx hb hr (by decide) (fun t ht hW => ⟨_, rfl, hw, ht⟩) (fun q h => absurd h List.not_mem_nil) dMo_isStatement_61
    · have hw := hw.2 c_42
      refine lv_aload_n hx hb dMo_isStatement_45 rfl (lv_at hl 0 rfl) ?_
      refine va_get (D := (dC, dI)) (ci := 9) (v := .ref h_mK) (C := RMo) (T := TMo) (N := 28) hx hb htb in_Mo hown hK.1 hP 0 rfl rfl 8 (by decide) hf_17 (fun _ h9 => h9) rfl dMo_isStatement_46 ?_
      refine lv_iload_n hx hb dMo_isStatement_49 rfl (lv_at hl 1 rfl) ?_
      obtain ⟨hin, hw⟩ := hw
      refine va_iald hx hb hK.1 hP 1 0 rfl rfl hin dMo_isStatement_50 ?_
      refine lv_bipush (v := 16) hx hb dMo_isStatement_51 (by decide +kernel) ?_
      refine lv_icmp_le (tgt := 60) hx hb dMo_isStatement_53 (by decide) (fun c_53 => ?_) (fun c_53 => ?_)
      · have hw := hw.1 c_53
        refine lv_iconst (v := 0) hx hb dMo_isStatement_60 (by decide) ?_
        rw [hQ]
        exact W.zret (v := 0) hx hb hr (by decide) (fun t ht hW => ⟨_, rfl, hw, ht⟩) (fun q h => absurd h List.not_mem_nil) dMo_isStatement_61
      · have hw := hw.2 c_53
        refine lv_iconst (v := 1) hx hb dMo_isStatement_56 (by decide) ?_
        refine lv_goto (tgt := 61) hx hb dMo_isStatement_57 (by decide) ?_
        rw [hQ]
        exact W.zret (v := 1) hx hb hr (by decide) (fun t ht hW => ⟨_, rfl, hw, ht⟩) (fun q h => absurd h List.not_mem_nil) dMo_isStatement_61
  have hl := lv_entry ([.ref h_mo, .int a1]) (n := 2) (Nat.le_of_ble_eq_true rfl)
  rw [lg_entry_eq]
  generalize (lg_sl ([.ref h_mo, .int a1]) ++ List.replicate (2 - (lg_sl ([.ref h_mo, .int a1])).length) Slot.unset).toArray = ls at hl ⊢
  have hl : lv_has ls 2 [(0, .ref h_mo), (1, .int a1)] := hl
  unfold wp_Mo_isStatement at hw
  refine lv_iload_n hx hb dMo_isStatement_0 rfl (lv_at hl 1 rfl) ?_
  refine lv_if_le (tgt := 60) hx hb dMo_isStatement_1 (by decide) (fun c_1 => ?_) (fun c_1 => ?_)
  · have hw := hw.1 c_1
    refine lv_iconst (v := 0) hx hb dMo_isStatement_60 (by decide) ?_
    rw [hQ]
    exact W.zret (v := 0) hx hb hr (by decide) (fun t ht hW => ⟨_, rfl, hw, ht⟩) (fun q h => absurd h List.not_mem_nil) dMo_isStatement_61
  · have hw := hw.2 c_1
    refine lv_iload_n hx hb dMo_isStatement_4 rfl (lv_at hl 1 rfl) ?_
    refine lv_aload_n hx hb dMo_isStatement_5 rfl (lv_at hl 0 rfl) ?_
    refine va_get (D := (dC, dI)) (ci := 9) (v := .int mo_nodes) (C := RMo) (T := TMo) (N := 28) hx hb htb in_Mo hown hK.1 hP 0 rfl rfl 3 (by decide) hf_76 (fun _ h9 => h9) rfl dMo_isStatement_6 ?_
    refine lv_icmp_gt (tgt := 60) hx hb dMo_isStatement_9 (by decide) (fun c_9 => ?_) (fun c_9 => ?_)
    · have hw := hw.1 c_9
      refine lv_iconst (v := 0) hx hb dMo_isStatement_60 (by decide) ?_
      rw [hQ]
      exact W.zret (v := 0) hx hb hr (by decide) (fun t ht hW => ⟨_, rfl, hw, ht⟩) (fun q h => absurd h List.not_mem_nil) dMo_isStatement_61
    · have hw := hw.2 c_9
      refine lv_aload_n hx hb dMo_isStatement_12 rfl (lv_at hl 0 rfl) ?_
      refine va_get (D := (dC, dI)) (ci := 9) (v := .ref h_mK) (C := RMo) (T := TMo) (N := 28) hx hb htb in_Mo hown hK.1 hP 0 rfl rfl 8 (by decide) hf_17 (fun _ h9 => h9) rfl dMo_isStatement_13 ?_
      refine lv_iload_n hx hb dMo_isStatement_16 rfl (lv_at hl 1 rfl) ?_
      obtain ⟨hin, hw⟩ := hw
      refine va_iald hx hb hK.1 hP 1 0 rfl rfl hin dMo_isStatement_17 ?_
      refine lv_bipush (v := 8) hx hb dMo_isStatement_18 (by decide +kernel) ?_
      refine lv_icmp_le (tgt := 34) hx hb dMo_isStatement_20 (by decide) (fun c_20 => ?_) (fun c_20 => ?_)
      · have hw := hw.1 c_20
        exact jn_34 a1 hw ls (lv_sub hl [0, 1] rfl)
      · have hw := hw.2 c_20
        refine lv_aload_n hx hb dMo_isStatement_23 rfl (lv_at hl 0 rfl) ?_
        refine va_get (D := (dC, dI)) (ci := 9) (v := .ref h_mK) (C := RMo) (T := TMo) (N := 28) hx hb htb in_Mo hown hK.1 hP 0 rfl rfl 8 (by decide) hf_17 (fun _ h9 => h9) rfl dMo_isStatement_24 ?_
        refine lv_iload_n hx hb dMo_isStatement_27 rfl (lv_at hl 1 rfl) ?_
        obtain ⟨hin, hw⟩ := hw
        refine va_iald hx hb hK.1 hP 1 0 rfl rfl hin dMo_isStatement_28 ?_
        refine lv_bipush (v := 13) hx hb dMo_isStatement_29 (by decide +kernel) ?_
        refine lv_icmp_lt (tgt := 56) hx hb dMo_isStatement_31 (by decide) (fun c_31 => ?_) (fun c_31 => ?_)
        · have hw := hw.1 c_31
          refine lv_iconst (v := 1) hx hb dMo_isStatement_56 (by decide) ?_
          refine lv_goto (tgt := 61) hx hb dMo_isStatement_57 (by decide) ?_
          rw [hQ]
          exact W.zret (v := 1) hx hb hr (by decide) (fun t ht hW => ⟨_, rfl, hw, ht⟩) (fun q h => absurd h List.not_mem_nil) dMo_isStatement_61
        · have hw := hw.2 c_31
          exact jn_34 a1 hw ls (lv_sub hl [0, 1] rfl)
def wp_Mo_isCell (post : Int32 → Prop) (mo_thrown : Int32) (mo_steps : Int64) (mo_cells : Int32) (mo_nodes : Int32) (mo_paragraphs : Int32) (mo_waiting : Int32) (mo_at : Int32) (mo_high : Int32) (mo_begun : Int32) (mo_raised : Int32) (mo_next : Int32) (mo_isSpent : Int32) (mo_result : Int64) (mo_fails : Int32) (a1 : Int32) : Prop := ((a1 < 0 → (post 0)) ∧ (¬ a1 < 0 → ((mo_cells ≤ a1 → (post 0)) ∧ (¬ mo_cells ≤ a1 → (post 1)))))
set_option maxHeartbeats 4000000 in
set_option maxRecDepth 100000 in
theorem met_Mo_isCell (l : Launch) (dC : Nat → ClassId) (dI : Nat → Nat → Nat) (cI cL cB : ClassId) (h_mo h_mD h_mV h_mK h_mA h_mB h_mW h_mN h_mQ h_mR h_mS h_mP h_mO h_mT h_mU : Nat) (mo_thrown : Int32) (mo_steps : Int64) (mo_cells : Int32) (mo_nodes : Int32) (mo_paragraphs : Int32) (mo_waiting : Int32) (mo_at : Int32) (mo_high : Int32) (mo_begun : Int32) (mo_raised : Int32) (mo_next : Int32) (mo_isSpent : Int32) (mo_result : Int64) (mo_fails : Int32) (a1 : Int32) (post : Int32 → Prop) (hw : wp_Mo_isCell post mo_thrown mo_steps mo_cells mo_nodes mo_paragraphs mo_waiting mo_at mo_high mo_begun mo_raised mo_next mo_isSpent mo_result mo_fails a1) : Met l yMo_isCell wsMo_isCell ({ frames := 0, cells := 0, slots := 0, locals := 0 } : Room) (va_Pc [.ref h_mo, .int a1] (fun U => va_P (dC, dI) vwCl [(h_mo, .inr (9, [.int mo_thrown, .long mo_steps, .int mo_cells, .int mo_nodes, .int mo_paragraphs, .int mo_waiting, .ref h_mD, .ref h_mV, .ref h_mK, .ref h_mA, .ref h_mB, .ref h_mW, .ref h_mN, .ref h_mQ, .ref h_mR, .ref h_mS, .int mo_at, .int mo_high, .int mo_begun, .int mo_raised, .int mo_next, .int mo_isSpent, .long mo_result, .ref h_mP, .ref h_mO, .ref h_mT, .ref h_mU, .int mo_fails]))] U.heap ∧ KK dC dI cI cL cB U)) (ro_i post) 0 0 (fun _ => False) := by
  refine Met.ofW (cc := cMo_isCell) (maxL := 2) (ret := (some .boolean)) (by decide) rfl ?_
  intro p e s m args below meth c s₁ B hml hv
  obtain ⟨rfl, hP, hK⟩ := hv
  have hx := B.exec
  have hb := B.bytes
  have hr := B.returns
  have hts := atoms_spec (ws := wsMo_isCell) B.pre
  have hown : s.vm.findClass RMo = some m.cls := findClass_of_methodNamed B.named
  have hlocks := B.notSynchronized
  have hS : va_S (fun _ => False) s.heap s.heap [] := va_S.rf
  have htb : ∀ w ∈ TB, w.before _ s = true := fun w h => hts w (List.mem_cons_of_mem _ h)
  have hf_69 := htb _ kw_689
  have hl := lv_entry ([.ref h_mo, .int a1]) (n := 2) (Nat.le_of_ble_eq_true rfl)
  rw [lg_entry_eq]
  generalize (lg_sl ([.ref h_mo, .int a1]) ++ List.replicate (2 - (lg_sl ([.ref h_mo, .int a1])).length) Slot.unset).toArray = ls at hl ⊢
  have hl : lv_has ls 2 [(0, .ref h_mo), (1, .int a1)] := hl
  unfold wp_Mo_isCell at hw
  refine lv_iload_n hx hb dMo_isCell_0 rfl (lv_at hl 1 rfl) ?_
  refine lv_if_lt (tgt := 16) hx hb dMo_isCell_1 (by decide) (fun c_1 => ?_) (fun c_1 => ?_)
  · have hw := hw.1 c_1
    refine lv_iconst (v := 0) hx hb dMo_isCell_16 (by decide) ?_
    exact W.zret (v := 0) hx hb hr (by decide) (fun t ht hW => ⟨_, rfl, hw, ht⟩) (fun q h => absurd h List.not_mem_nil) dMo_isCell_17
  · have hw := hw.2 c_1
    refine lv_iload_n hx hb dMo_isCell_4 rfl (lv_at hl 1 rfl) ?_
    refine lv_aload_n hx hb dMo_isCell_5 rfl (lv_at hl 0 rfl) ?_
    refine va_get (D := (dC, dI)) (ci := 9) (v := .int mo_cells) (C := RMo) (T := TMo) (N := 28) hx hb htb in_Mo hown hK.1 hP 0 rfl rfl 2 (by decide) hf_69 (fun _ h9 => h9) rfl dMo_isCell_6 ?_
    refine lv_icmp_ge (tgt := 16) hx hb dMo_isCell_9 (by decide) (fun c_9 => ?_) (fun c_9 => ?_)
    · have hw := hw.1 c_9
      refine lv_iconst (v := 0) hx hb dMo_isCell_16 (by decide) ?_
      exact W.zret (v := 0) hx hb hr (by decide) (fun t ht hW => ⟨_, rfl, hw, ht⟩) (fun q h => absurd h List.not_mem_nil) dMo_isCell_17
    · have hw := hw.2 c_9
      refine lv_iconst (v := 1) hx hb dMo_isCell_12 (by decide) ?_
      refine lv_goto (tgt := 17) hx hb dMo_isCell_13 (by decide) ?_
      exact W.zret (v := 1) hx hb hr (by decide) (fun t ht hW => ⟨_, rfl, hw, ht⟩) (fun q h => absurd h List.not_mem_nil) dMo_isCell_17
def wp_Mo_needs (post : Int32 → Prop) (mo_thrown : Int32) (mo_steps : Int64) (mo_cells : Int32) (mo_nodes : Int32) (mo_paragraphs : Int32) (mo_waiting : Int32) (mo_at : Int32) (mo_high : Int32) (mo_begun : Int32) (mo_raised : Int32) (mo_next : Int32) (mo_isSpent : Int32) (mo_result : Int64) (mo_fails : Int32) (mK : (Nat → Int32)) (a1 : Int32) (a2 : Int32) (a3 : Int32) : Prop := ((a1 = 1 → (wp_Mo_isCell (fun (r_118 : Int32) => ((r_118 = 0 ∨ r_118 = 1) ∧ post r_118)) mo_thrown mo_steps mo_cells mo_nodes mo_paragraphs mo_waiting mo_at mo_high mo_begun mo_raised mo_next mo_isSpent mo_result mo_fails a2)) ∧ (a1 = 2 → (wp_Mo_isValue (fun (r_124 : Int32) => ((r_124 = 0 → (post 0)) ∧ (¬ r_124 = 0 → (wp_Mo_isValue (fun (r_132 : Int32) => ((r_132 = 0 → (post 0)) ∧ (¬ r_132 = 0 → (post 1)))) mo_thrown mo_steps mo_cells mo_nodes mo_paragraphs mo_waiting mo_at mo_high mo_begun mo_raised mo_next mo_isSpent mo_result mo_fails mK a3)))) mo_thrown mo_steps mo_cells mo_nodes mo_paragraphs mo_waiting mo_at mo_high mo_begun mo_raised mo_next mo_isSpent mo_result mo_fails mK a2)) ∧ (a1 = 3 → (wp_Mo_isValue (fun (r_124 : Int32) => ((r_124 = 0 → (post 0)) ∧ (¬ r_124 = 0 → (wp_Mo_isValue (fun (r_132 : Int32) => ((r_132 = 0 → (post 0)) ∧ (¬ r_132 = 0 → (post 1)))) mo_thrown mo_steps mo_cells mo_nodes mo_paragraphs mo_waiting mo_at mo_high mo_begun mo_raised mo_next mo_isSpent mo_result mo_fails mK a3)))) mo_thrown mo_steps mo_cells mo_nodes mo_paragraphs mo_waiting mo_at mo_high mo_begun mo_raised mo_next mo_isSpent mo_result mo_fails mK a2)) ∧ (a1 = 4 → (wp_Mo_isValue (fun (r_124 : Int32) => ((r_124 = 0 → (post 0)) ∧ (¬ r_124 = 0 → (wp_Mo_isValue (fun (r_132 : Int32) => ((r_132 = 0 → (post 0)) ∧ (¬ r_132 = 0 → (post 1)))) mo_thrown mo_steps mo_cells mo_nodes mo_paragraphs mo_waiting mo_at mo_high mo_begun mo_raised mo_next mo_isSpent mo_result mo_fails mK a3)))) mo_thrown mo_steps mo_cells mo_nodes mo_paragraphs mo_waiting mo_at mo_high mo_begun mo_raised mo_next mo_isSpent mo_result mo_fails mK a2)) ∧ (a1 = 5 → (wp_Mo_isValue (fun (r_124 : Int32) => ((r_124 = 0 → (post 0)) ∧ (¬ r_124 = 0 → (wp_Mo_isValue (fun (r_132 : Int32) => ((r_132 = 0 → (post 0)) ∧ (¬ r_132 = 0 → (post 1)))) mo_thrown mo_steps mo_cells mo_nodes mo_paragraphs mo_waiting mo_at mo_high mo_begun mo_raised mo_next mo_isSpent mo_result mo_fails mK a3)))) mo_thrown mo_steps mo_cells mo_nodes mo_paragraphs mo_waiting mo_at mo_high mo_begun mo_raised mo_next mo_isSpent mo_result mo_fails mK a2)) ∧ (a1 = 6 → (wp_Mo_isValue (fun (r_124 : Int32) => ((r_124 = 0 → (post 0)) ∧ (¬ r_124 = 0 → (wp_Mo_isValue (fun (r_132 : Int32) => ((r_132 = 0 → (post 0)) ∧ (¬ r_132 = 0 → (post 1)))) mo_thrown mo_steps mo_cells mo_nodes mo_paragraphs mo_waiting mo_at mo_high mo_begun mo_raised mo_next mo_isSpent mo_result mo_fails mK a3)))) mo_thrown mo_steps mo_cells mo_nodes mo_paragraphs mo_waiting mo_at mo_high mo_begun mo_raised mo_next mo_isSpent mo_result mo_fails mK a2)) ∧ (a1 = 7 → (wp_Mo_isValue (fun (r_124 : Int32) => ((r_124 = 0 → (post 0)) ∧ (¬ r_124 = 0 → (wp_Mo_isValue (fun (r_132 : Int32) => ((r_132 = 0 → (post 0)) ∧ (¬ r_132 = 0 → (post 1)))) mo_thrown mo_steps mo_cells mo_nodes mo_paragraphs mo_waiting mo_at mo_high mo_begun mo_raised mo_next mo_isSpent mo_result mo_fails mK a3)))) mo_thrown mo_steps mo_cells mo_nodes mo_paragraphs mo_waiting mo_at mo_high mo_begun mo_raised mo_next mo_isSpent mo_result mo_fails mK a2)) ∧ (a1 = 8 → (wp_Mo_isValue (fun (r_124 : Int32) => ((r_124 = 0 → (post 0)) ∧ (¬ r_124 = 0 → (wp_Mo_isValue (fun (r_132 : Int32) => ((r_132 = 0 → (post 0)) ∧ (¬ r_132 = 0 → (post 1)))) mo_thrown mo_steps mo_cells mo_nodes mo_paragraphs mo_waiting mo_at mo_high mo_begun mo_raised mo_next mo_isSpent mo_result mo_fails mK a3)))) mo_thrown mo_steps mo_cells mo_nodes mo_paragraphs mo_waiting mo_at mo_high mo_begun mo_raised mo_next mo_isSpent mo_result mo_fails mK a2)) ∧ (a1 = 9 → (wp_Mo_isCell (fun (r_146 : Int32) => ((r_146 = 0 → (post 0)) ∧ (¬ r_146 = 0 → (wp_Mo_isValue (fun (r_154 : Int32) => ((r_154 = 0 → (post 0)) ∧ (¬ r_154 = 0 → (post 1)))) mo_thrown mo_steps mo_cells mo_nodes mo_paragraphs mo_waiting mo_at mo_high mo_begun mo_raised mo_next mo_isSpent mo_result mo_fails mK a3)))) mo_thrown mo_steps mo_cells mo_nodes mo_paragraphs mo_waiting mo_at mo_high mo_begun mo_raised mo_next mo_isSpent mo_result mo_fails a2)) ∧ (a1 = 10 → (wp_Mo_isStatement (fun (r_168 : Int32) => ((r_168 = 0 → (post 0)) ∧ (¬ r_168 = 0 → (wp_Mo_isStatement (fun (r_176 : Int32) => ((r_176 = 0 → (post 0)) ∧ (¬ r_176 = 0 → (post 1)))) mo_thrown mo_steps mo_cells mo_nodes mo_paragraphs mo_waiting mo_at mo_high mo_begun mo_raised mo_next mo_isSpent mo_result mo_fails mK a3)))) mo_thrown mo_steps mo_cells mo_nodes mo_paragraphs mo_waiting mo_at mo_high mo_begun mo_raised mo_next mo_isSpent mo_result mo_fails mK a2)) ∧ (a1 = 11 → (wp_Mo_isValue (fun (r_190 : Int32) => ((r_190 = 0 → (post 0)) ∧ (¬ r_190 = 0 → (wp_Mo_isStatement (fun (r_198 : Int32) => ((r_198 = 0 → (post 0)) ∧ (¬ r_198 = 0 → (post 1)))) mo_thrown mo_steps mo_cells mo_nodes mo_paragraphs mo_waiting mo_at mo_high mo_begun mo_raised mo_next mo_isSpent mo_result mo_fails mK a3)))) mo_thrown mo_steps mo_cells mo_nodes mo_paragraphs mo_waiting mo_at mo_high mo_begun mo_raised mo_next mo_isSpent mo_result mo_fails mK a2)) ∧ (a1 = 12 → (wp_Mo_isValue (fun (r_212 : Int32) => ((r_212 = 0 → (post 0)) ∧ (¬ r_212 = 0 → (wp_Mo_isKind (fun (r_222 : Int32) => ((r_222 = 0 → (post 0)) ∧ (¬ r_222 = 0 → (post 1)))) mo_thrown mo_steps mo_cells mo_nodes mo_paragraphs mo_waiting mo_at mo_high mo_begun mo_raised mo_next mo_isSpent mo_result mo_fails mK a3 13)))) mo_thrown mo_steps mo_cells mo_nodes mo_paragraphs mo_waiting mo_at mo_high mo_begun mo_raised mo_next mo_isSpent mo_result mo_fails mK a2)) ∧ (a1 = 13 → (wp_Mo_isStatement (fun (r_168 : Int32) => ((r_168 = 0 → (post 0)) ∧ (¬ r_168 = 0 → (wp_Mo_isStatement (fun (r_176 : Int32) => ((r_176 = 0 → (post 0)) ∧ (¬ r_176 = 0 → (post 1)))) mo_thrown mo_steps mo_cells mo_nodes mo_paragraphs mo_waiting mo_at mo_high mo_begun mo_raised mo_next mo_isSpent mo_result mo_fails mK a3)))) mo_thrown mo_steps mo_cells mo_nodes mo_paragraphs mo_waiting mo_at mo_high mo_begun mo_raised mo_next mo_isSpent mo_result mo_fails mK a2)) ∧ (a1 = 14 → (wp_Mo_isValue (fun (r_236 : Int32) => ((r_236 = 0 → (post 0)) ∧ (¬ r_236 = 0 → (wp_Mo_isKind (fun (r_246 : Int32) => ((r_246 = 0 → (post 0)) ∧ (¬ r_246 = 0 → (post 1)))) mo_thrown mo_steps mo_cells mo_nodes mo_paragraphs mo_waiting mo_at mo_high mo_begun mo_raised mo_next mo_isSpent mo_result mo_fails mK a3 15)))) mo_thrown mo_steps mo_cells mo_nodes mo_paragraphs mo_waiting mo_at mo_high mo_begun mo_raised mo_next mo_isSpent mo_result mo_fails mK a2)) ∧ (a1 = 15 → (wp_Mo_isKind (fun (r_262 : Int32) => ((r_262 = 0 → (post 0)) ∧ (¬ r_262 = 0 → ((a3 = 0 → (post 1)) ∧ (¬ a3 = 0 → (wp_Mo_isKind (fun (r_276 : Int32) => ((r_276 = 0 → (post 0)) ∧ (¬ r_276 = 0 → (post 1)))) mo_thrown mo_steps mo_cells mo_nodes mo_paragraphs mo_waiting mo_at mo_high mo_begun mo_raised mo_next mo_isSpent mo_result mo_fails mK a3 15)))))) mo_thrown mo_steps mo_cells mo_nodes mo_paragraphs mo_waiting mo_at mo_high mo_begun mo_raised mo_next mo_isSpent mo_result mo_fails mK a2 16)) ∧ (a1 = 16 → ((a2 = 0 → (wp_Mo_isStatement (fun (r_312 : Int32) => ((r_312 = 0 → (post 0)) ∧ (¬ r_312 = 0 → (post 1)))) mo_thrown mo_steps mo_cells mo_nodes mo_paragraphs mo_waiting mo_at mo_high mo_begun mo_raised mo_next mo_isSpent mo_result mo_fails mK a3)) ∧ (¬ a2 = 0 → (wp_Mo_isValue (fun (r_294 : Int32) => ((¬ r_294 = 0 → (wp_Mo_isStatement (fun (r_312 : Int32) => ((r_312 = 0 → (post 0)) ∧ (¬ r_312 = 0 → (post 1)))) mo_thrown mo_steps mo_cells mo_nodes mo_paragraphs mo_waiting mo_at mo_high mo_begun mo_raised mo_next mo_isSpent mo_result mo_fails mK a3)) ∧ (r_294 = 0 → (wp_Mo_isKind (fun (r_304 : Int32) => ((r_304 = 0 → (post 0)) ∧ (¬ r_304 = 0 → (wp_Mo_isStatement (fun (r_312 : Int32) => ((r_312 = 0 → (post 0)) ∧ (¬ r_312 = 0 → (post 1)))) mo_thrown mo_steps mo_cells mo_nodes mo_paragraphs mo_waiting mo_at mo_high mo_begun mo_raised mo_next mo_isSpent mo_result mo_fails mK a3)))) mo_thrown mo_steps mo_cells mo_nodes mo_paragraphs mo_waiting mo_at mo_high mo_begun mo_raised mo_next mo_isSpent mo_result mo_fails mK a2 8)))) mo_thrown mo_steps mo_cells mo_nodes mo_paragraphs mo_waiting mo_at mo_high mo_begun mo_raised mo_next mo_isSpent mo_result mo_fails mK a2)))) ∧ (a1 = 18 → (wp_Mo_isValue (fun (r_326 : Int32) => ((r_326 = 0 ∨ r_326 = 1) ∧ post r_326)) mo_thrown mo_steps mo_cells mo_nodes mo_paragraphs mo_waiting mo_at mo_high mo_begun mo_raised mo_next mo_isSpent mo_result mo_fails mK a3)) ∧ (a1 = 22 → (wp_Mo_isStatement (fun (r_332 : Int32) => ((r_332 = 0 ∨ r_332 = 1) ∧ post r_332)) mo_thrown mo_steps mo_cells mo_nodes mo_paragraphs mo_waiting mo_at mo_high mo_begun mo_raised mo_next mo_isSpent mo_result mo_fails mK a2)) ∧ (a1 = 23 → (wp_Mo_isValue (fun (r_338 : Int32) => ((r_338 = 0 ∨ r_338 = 1) ∧ post r_338)) mo_thrown mo_steps mo_cells mo_nodes mo_paragraphs mo_waiting mo_at mo_high mo_begun mo_raised mo_next mo_isSpent mo_result mo_fails mK a2)) ∧ (a1 = 24 → (wp_Mo_isValue (fun (r_338 : Int32) => ((r_338 = 0 ∨ r_338 = 1) ∧ post r_338)) mo_thrown mo_steps mo_cells mo_nodes mo_paragraphs mo_waiting mo_at mo_high mo_begun mo_raised mo_next mo_isSpent mo_result mo_fails mK a2)) ∧ (a1 = 25 → ((a2 = 0 → ((a3 = 0 → (post 1)) ∧ (¬ a3 = 0 → (wp_Mo_isStatement (fun (r_360 : Int32) => ((r_360 = 0 → (post 0)) ∧ (¬ r_360 = 0 → (post 1)))) mo_thrown mo_steps mo_cells mo_nodes mo_paragraphs mo_waiting mo_at mo_high mo_begun mo_raised mo_next mo_isSpent mo_result mo_fails mK a3)))) ∧ (¬ a2 = 0 → (wp_Mo_isStatement (fun (r_348 : Int32) => ((r_348 = 0 → (post 0)) ∧ (¬ r_348 = 0 → ((a3 = 0 → (post 1)) ∧ (¬ a3 = 0 → (wp_Mo_isStatement (fun (r_360 : Int32) => ((r_360 = 0 → (post 0)) ∧ (¬ r_360 = 0 → (post 1)))) mo_thrown mo_steps mo_cells mo_nodes mo_paragraphs mo_waiting mo_at mo_high mo_begun mo_raised mo_next mo_isSpent mo_result mo_fails mK a3)))))) mo_thrown mo_steps mo_cells mo_nodes mo_paragraphs mo_waiting mo_at mo_high mo_begun mo_raised mo_next mo_isSpent mo_result mo_fails mK a2)))) ∧ (¬ a1 = 1 ∧ ¬ a1 = 2 ∧ ¬ a1 = 3 ∧ ¬ a1 = 4 ∧ ¬ a1 = 5 ∧ ¬ a1 = 6 ∧ ¬ a1 = 7 ∧ ¬ a1 = 8 ∧ ¬ a1 = 9 ∧ ¬ a1 = 10 ∧ ¬ a1 = 11 ∧ ¬ a1 = 12 ∧ ¬ a1 = 13 ∧ ¬ a1 = 14 ∧ ¬ a1 = 15 ∧ ¬ a1 = 16 ∧ ¬ a1 = 18 ∧ ¬ a1 = 22 ∧ ¬ a1 = 23 ∧ ¬ a1 = 24 ∧ ¬ a1 = 25 → (post 1)))
set_option maxHeartbeats 4000000 in
set_option maxRecDepth 100000 in
theorem met_Mo_needs (l : Launch) (dC : Nat → ClassId) (dI : Nat → Nat → Nat) (cI cL cB : ClassId) (h_mo h_mD h_mV h_mK h_mA h_mB h_mW h_mN h_mQ h_mR h_mS h_mP h_mO h_mT h_mU : Nat) (mo_thrown : Int32) (mo_steps : Int64) (mo_cells : Int32) (mo_nodes : Int32) (mo_paragraphs : Int32) (mo_waiting : Int32) (mo_at : Int32) (mo_high : Int32) (mo_begun : Int32) (mo_raised : Int32) (mo_next : Int32) (mo_isSpent : Int32) (mo_result : Int64) (mo_fails : Int32) (mK : (Nat → Int32)) (a1 : Int32) (a2 : Int32) (a3 : Int32) (post : Int32 → Prop) (hw : wp_Mo_needs post mo_thrown mo_steps mo_cells mo_nodes mo_paragraphs mo_waiting mo_at mo_high mo_begun mo_raised mo_next mo_isSpent mo_result mo_fails mK a1 a2 a3) : Met l yMo_needs wsMo_needs ({ frames := 1, cells := 0, slots := 0, locals := 22 } : Room) (va_Pc [.ref h_mo, .int a1, .int a2, .int a3] (fun U => va_P (dC, dI) vwCl [(h_mo, .inr (9, [.int mo_thrown, .long mo_steps, .int mo_cells, .int mo_nodes, .int mo_paragraphs, .int mo_waiting, .ref h_mD, .ref h_mV, .ref h_mK, .ref h_mA, .ref h_mB, .ref h_mW, .ref h_mN, .ref h_mQ, .ref h_mR, .ref h_mS, .int mo_at, .int mo_high, .int mo_begun, .int mo_raised, .int mo_next, .int mo_isSpent, .long mo_result, .ref h_mP, .ref h_mO, .ref h_mT, .ref h_mU, .int mo_fails])), (h_mK, .inl (cI, 201, .inl mK))] U.heap ∧ KK dC dI cI cL cB U)) (ro_i post) 0 0 (fun _ => False) := by
  refine Met.ofW (cc := cMo_needs) (maxL := 4) (ret := (some .boolean)) (by decide) rfl ?_
  intro p e s m args below meth c s₁ B hml hv
  obtain ⟨rfl, hP, hK⟩ := hv
  have hx := B.exec
  have hb := B.bytes
  have hr := B.returns
  have hts := atoms_spec (ws := wsMo_needs) B.pre
  have hown : s.vm.findClass RMo = some m.cls := findClass_of_methodNamed B.named
  have hlocks := B.notSynchronized
  have hS : va_S (fun _ => False) s.heap s.heap [] := va_S.rf
  have htb : ∀ w ∈ TB, w.before _ s = true := fun w h => hts w (List.mem_cons_of_mem _ h)
  have hl := lv_entry ([.ref h_mo, .int a1, .int a2, .int a3]) (n := 4) (Nat.le_of_ble_eq_true rfl)
  rw [lg_entry_eq]
  generalize (lg_sl ([.ref h_mo, .int a1, .int a2, .int a3]) ++ List.replicate (4 - (lg_sl ([.ref h_mo, .int a1, .int a2, .int a3])).length) Slot.unset).toArray = ls at hl ⊢
  have hl : lv_has ls 4 [(0, .ref h_mo), (1, .int a1), (2, .int a2), (3, .int a3)] := hl
  unfold wp_Mo_needs at hw
  refine lv_iload_n hx hb dMo_needs_0 rfl (lv_at hl 1 rfl) ?_
  by_cases c_1_1 : a1 = 1
  · have hw := hw.1 c_1_1
    refine lv_tableIn (off := 115) (tgt := 116) hx hb dMo_needs_1 (by rw [c_1_1]; decide) (by rw [c_1_1]; decide) (by rw [c_1_1]; rfl) (by decide) ?_
    refine lv_aload_n hx hb dMo_needs_116 rfl (lv_at hl 0 rfl) ?_
    refine lv_iload_n hx hb dMo_needs_117 rfl (lv_at hl 2 rfl) ?_
    have hPc := hP.sub (ws' := [(h_mo, .inr (9, [.int mo_thrown, .long mo_steps, .int mo_cells, .int mo_nodes, .int mo_paragraphs, .int mo_waiting, .ref h_mD, .ref h_mV, .ref h_mK, .ref h_mA, .ref h_mB, .ref h_mW, .ref h_mN, .ref h_mQ, .ref h_mR, .ref h_mS, .int mo_at, .int mo_high, .int mo_begun, .int mo_raised, .int mo_next, .int mo_isSpent, .long mo_result, .ref h_mP, .ref h_mO, .ref h_mT, .ref h_mU, .int mo_fails]))]) [0] rfl
    refine ro_ci (va_runV (As := [.int a2]) (rest := []) ⟨hx, hb, hml, hown, htb⟩ (met_Mo_isCell l dC dI cI cL cB h_mo h_mD h_mV h_mK h_mA h_mB h_mW h_mN h_mQ h_mR h_mS h_mP h_mO h_mT h_mU mo_thrown mo_steps mo_cells mo_nodes mo_paragraphs mo_waiting mo_at mo_high mo_begun mo_raised mo_next mo_isSpent mo_result mo_fails a2 _ hw) (cwV 1 htb (gdV kw_792 kw_794 kw_23 kw_48 kw_795) rfl rfl rfl (by decide +kernel) ⟨Nat.le_of_ble_eq_true rfl, Nat.le_of_ble_eq_true rfl⟩) ⟨fun a U g mk q => by obtain ⟨q0, qP, qK⟩ := q; exact ⟨q0, qP, KK_c qK⟩, va_recv hK.1 hP (ci := 9) (q0 := 0) rfl rfl, fun U hU hW => ⟨rfl, by rw [hU]; exact hPc, KK_w hW hK⟩⟩ rfl rfl hl.1 rfl (lv_room (Nat.le_of_ble_eq_true rfl)) dMo_needs_118 ⟨Nat.zero_le _, Nat.zero_le _⟩) (fun r_118 hw => ?_)
    try dsimp only at hw
    obtain ⟨hbz, hw⟩ := hw
    exact W.zret (v := r_118) hx hb hr (bz_nar hbz) (fun t ht hW => ⟨_, rfl, hw, ht⟩) (fun q h => absurd h List.not_mem_nil) dMo_needs_121
  have hw := hw.2
  by_cases c_1_2 : a1 = 2
  · have hw := hw.1 c_1_2
    refine lv_tableIn (off := 121) (tgt := 122) hx hb dMo_needs_1 (by rw [c_1_2]; decide) (by rw [c_1_2]; decide) (by rw [c_1_2]; rfl) (by decide) ?_
    refine lv_aload_n hx hb dMo_needs_122 rfl (lv_at hl 0 rfl) ?_
    refine lv_iload_n hx hb dMo_needs_123 rfl (lv_at hl 2 rfl) ?_
    have hPc := hP.sub (ws' := [(h_mo, .inr (9, [.int mo_thrown, .long mo_steps, .int mo_cells, .int mo_nodes, .int mo_paragraphs, .int mo_waiting, .ref h_mD, .ref h_mV, .ref h_mK, .ref h_mA, .ref h_mB, .ref h_mW, .ref h_mN, .ref h_mQ, .ref h_mR, .ref h_mS, .int mo_at, .int mo_high, .int mo_begun, .int mo_raised, .int mo_next, .int mo_isSpent, .long mo_result, .ref h_mP, .ref h_mO, .ref h_mT, .ref h_mU, .int mo_fails])), (h_mK, .inl (cI, 201, .inl mK))]) [0, 1] rfl
    refine ro_ci (va_runV (As := [.int a2]) (rest := []) ⟨hx, hb, hml, hown, htb⟩ (met_Mo_isValue l dC dI cI cL cB h_mo h_mD h_mV h_mK h_mA h_mB h_mW h_mN h_mQ h_mR h_mS h_mP h_mO h_mT h_mU mo_thrown mo_steps mo_cells mo_nodes mo_paragraphs mo_waiting mo_at mo_high mo_begun mo_raised mo_next mo_isSpent mo_result mo_fails mK a2 _ hw) (cwV 1 htb (gdV kw_796 kw_798 kw_24 kw_48 kw_799) rfl rfl rfl (by decide +kernel) ⟨Nat.le_of_ble_eq_true rfl, Nat.le_of_ble_eq_true rfl⟩) ⟨fun a U g mk q => by obtain ⟨q0, qP, qK⟩ := q; exact ⟨q0, qP, KK_c qK⟩, va_recv hK.1 hP (ci := 9) (q0 := 0) rfl rfl, fun U hU hW => ⟨rfl, by rw [hU]; exact hPc, KK_w hW hK⟩⟩ rfl rfl hl.1 rfl (lv_room (Nat.le_of_ble_eq_true rfl)) dMo_needs_124 ⟨Nat.zero_le _, Nat.zero_le _⟩) (fun r_124 hw => ?_)
    try dsimp only at hw
    refine lv_if_eq (tgt := 142) hx hb dMo_needs_127 (by decide) (fun c_127 => ?_) (fun c_127 => ?_)
    · have hw := hw.1 c_127
      refine lv_iconst (v := 0) hx hb dMo_needs_142 (by decide) ?_
      exact W.zret (v := 0) hx hb hr (by decide) (fun t ht hW => ⟨_, rfl, hw, ht⟩) (fun q h => absurd h List.not_mem_nil) dMo_needs_143
    · have hw := hw.2 c_127
      refine lv_aload_n hx hb dMo_needs_130 rfl (lv_at hl 0 rfl) ?_
      refine lv_iload_n hx hb dMo_needs_131 rfl (lv_at hl 3 rfl) ?_
      have hPc := hP.sub (ws' := [(h_mo, .inr (9, [.int mo_thrown, .long mo_steps, .int mo_cells, .int mo_nodes, .int mo_paragraphs, .int mo_waiting, .ref h_mD, .ref h_mV, .ref h_mK, .ref h_mA, .ref h_mB, .ref h_mW, .ref h_mN, .ref h_mQ, .ref h_mR, .ref h_mS, .int mo_at, .int mo_high, .int mo_begun, .int mo_raised, .int mo_next, .int mo_isSpent, .long mo_result, .ref h_mP, .ref h_mO, .ref h_mT, .ref h_mU, .int mo_fails])), (h_mK, .inl (cI, 201, .inl mK))]) [0, 1] rfl
      refine ro_ci (va_runV (As := [.int a3]) (rest := []) ⟨hx, hb, hml, hown, htb⟩ (met_Mo_isValue l dC dI cI cL cB h_mo h_mD h_mV h_mK h_mA h_mB h_mW h_mN h_mQ h_mR h_mS h_mP h_mO h_mT h_mU mo_thrown mo_steps mo_cells mo_nodes mo_paragraphs mo_waiting mo_at mo_high mo_begun mo_raised mo_next mo_isSpent mo_result mo_fails mK a3 _ hw) (cwV 1 htb (gdV kw_796 kw_798 kw_24 kw_48 kw_799) rfl rfl rfl (by decide +kernel) ⟨Nat.le_of_ble_eq_true rfl, Nat.le_of_ble_eq_true rfl⟩) ⟨fun a U g mk q => by obtain ⟨q0, qP, qK⟩ := q; exact ⟨q0, qP, KK_c qK⟩, va_recv hK.1 hP (ci := 9) (q0 := 0) rfl rfl, fun U hU hW => ⟨rfl, by rw [hU]; exact hPc, KK_w hW hK⟩⟩ rfl rfl hl.1 rfl (lv_room (Nat.le_of_ble_eq_true rfl)) dMo_needs_132 ⟨Nat.zero_le _, Nat.zero_le _⟩) (fun r_132 hw => ?_)
      try dsimp only at hw
      refine lv_if_eq (tgt := 142) hx hb dMo_needs_135 (by decide) (fun c_135 => ?_) (fun c_135 => ?_)
      · have hw := hw.1 c_135
        refine lv_iconst (v := 0) hx hb dMo_needs_142 (by decide) ?_
        exact W.zret (v := 0) hx hb hr (by decide) (fun t ht hW => ⟨_, rfl, hw, ht⟩) (fun q h => absurd h List.not_mem_nil) dMo_needs_143
      · have hw := hw.2 c_135
        refine lv_iconst (v := 1) hx hb dMo_needs_138 (by decide) ?_
        refine lv_goto (tgt := 143) hx hb dMo_needs_139 (by decide) ?_
        exact W.zret (v := 1) hx hb hr (by decide) (fun t ht hW => ⟨_, rfl, hw, ht⟩) (fun q h => absurd h List.not_mem_nil) dMo_needs_143
  have hw := hw.2
  by_cases c_1_3 : a1 = 3
  · have hw := hw.1 c_1_3
    refine lv_tableIn (off := 121) (tgt := 122) hx hb dMo_needs_1 (by rw [c_1_3]; decide) (by rw [c_1_3]; decide) (by rw [c_1_3]; rfl) (by decide) ?_
    refine lv_aload_n hx hb dMo_needs_122 rfl (lv_at hl 0 rfl) ?_
    refine lv_iload_n hx hb dMo_needs_123 rfl (lv_at hl 2 rfl) ?_
    have hPc := hP.sub (ws' := [(h_mo, .inr (9, [.int mo_thrown, .long mo_steps, .int mo_cells, .int mo_nodes, .int mo_paragraphs, .int mo_waiting, .ref h_mD, .ref h_mV, .ref h_mK, .ref h_mA, .ref h_mB, .ref h_mW, .ref h_mN, .ref h_mQ, .ref h_mR, .ref h_mS, .int mo_at, .int mo_high, .int mo_begun, .int mo_raised, .int mo_next, .int mo_isSpent, .long mo_result, .ref h_mP, .ref h_mO, .ref h_mT, .ref h_mU, .int mo_fails])), (h_mK, .inl (cI, 201, .inl mK))]) [0, 1] rfl
    refine ro_ci (va_runV (As := [.int a2]) (rest := []) ⟨hx, hb, hml, hown, htb⟩ (met_Mo_isValue l dC dI cI cL cB h_mo h_mD h_mV h_mK h_mA h_mB h_mW h_mN h_mQ h_mR h_mS h_mP h_mO h_mT h_mU mo_thrown mo_steps mo_cells mo_nodes mo_paragraphs mo_waiting mo_at mo_high mo_begun mo_raised mo_next mo_isSpent mo_result mo_fails mK a2 _ hw) (cwV 1 htb (gdV kw_796 kw_798 kw_24 kw_48 kw_799) rfl rfl rfl (by decide +kernel) ⟨Nat.le_of_ble_eq_true rfl, Nat.le_of_ble_eq_true rfl⟩) ⟨fun a U g mk q => by obtain ⟨q0, qP, qK⟩ := q; exact ⟨q0, qP, KK_c qK⟩, va_recv hK.1 hP (ci := 9) (q0 := 0) rfl rfl, fun U hU hW => ⟨rfl, by rw [hU]; exact hPc, KK_w hW hK⟩⟩ rfl rfl hl.1 rfl (lv_room (Nat.le_of_ble_eq_true rfl)) dMo_needs_124 ⟨Nat.zero_le _, Nat.zero_le _⟩) (fun r_124 hw => ?_)
    try dsimp only at hw
    refine lv_if_eq (tgt := 142) hx hb dMo_needs_127 (by decide) (fun c_127 => ?_) (fun c_127 => ?_)
    · have hw := hw.1 c_127
      refine lv_iconst (v := 0) hx hb dMo_needs_142 (by decide) ?_
      exact W.zret (v := 0) hx hb hr (by decide) (fun t ht hW => ⟨_, rfl, hw, ht⟩) (fun q h => absurd h List.not_mem_nil) dMo_needs_143
    · have hw := hw.2 c_127
      refine lv_aload_n hx hb dMo_needs_130 rfl (lv_at hl 0 rfl) ?_
      refine lv_iload_n hx hb dMo_needs_131 rfl (lv_at hl 3 rfl) ?_
      have hPc := hP.sub (ws' := [(h_mo, .inr (9, [.int mo_thrown, .long mo_steps, .int mo_cells, .int mo_nodes, .int mo_paragraphs, .int mo_waiting, .ref h_mD, .ref h_mV, .ref h_mK, .ref h_mA, .ref h_mB, .ref h_mW, .ref h_mN, .ref h_mQ, .ref h_mR, .ref h_mS, .int mo_at, .int mo_high, .int mo_begun, .int mo_raised, .int mo_next, .int mo_isSpent, .long mo_result, .ref h_mP, .ref h_mO, .ref h_mT, .ref h_mU, .int mo_fails])), (h_mK, .inl (cI, 201, .inl mK))]) [0, 1] rfl
      refine ro_ci (va_runV (As := [.int a3]) (rest := []) ⟨hx, hb, hml, hown, htb⟩ (met_Mo_isValue l dC dI cI cL cB h_mo h_mD h_mV h_mK h_mA h_mB h_mW h_mN h_mQ h_mR h_mS h_mP h_mO h_mT h_mU mo_thrown mo_steps mo_cells mo_nodes mo_paragraphs mo_waiting mo_at mo_high mo_begun mo_raised mo_next mo_isSpent mo_result mo_fails mK a3 _ hw) (cwV 1 htb (gdV kw_796 kw_798 kw_24 kw_48 kw_799) rfl rfl rfl (by decide +kernel) ⟨Nat.le_of_ble_eq_true rfl, Nat.le_of_ble_eq_true rfl⟩) ⟨fun a U g mk q => by obtain ⟨q0, qP, qK⟩ := q; exact ⟨q0, qP, KK_c qK⟩, va_recv hK.1 hP (ci := 9) (q0 := 0) rfl rfl, fun U hU hW => ⟨rfl, by rw [hU]; exact hPc, KK_w hW hK⟩⟩ rfl rfl hl.1 rfl (lv_room (Nat.le_of_ble_eq_true rfl)) dMo_needs_132 ⟨Nat.zero_le _, Nat.zero_le _⟩) (fun r_132 hw => ?_)
      try dsimp only at hw
      refine lv_if_eq (tgt := 142) hx hb dMo_needs_135 (by decide) (fun c_135 => ?_) (fun c_135 => ?_)
      · have hw := hw.1 c_135
        refine lv_iconst (v := 0) hx hb dMo_needs_142 (by decide) ?_
        exact W.zret (v := 0) hx hb hr (by decide) (fun t ht hW => ⟨_, rfl, hw, ht⟩) (fun q h => absurd h List.not_mem_nil) dMo_needs_143
      · have hw := hw.2 c_135
        refine lv_iconst (v := 1) hx hb dMo_needs_138 (by decide) ?_
        refine lv_goto (tgt := 143) hx hb dMo_needs_139 (by decide) ?_
        exact W.zret (v := 1) hx hb hr (by decide) (fun t ht hW => ⟨_, rfl, hw, ht⟩) (fun q h => absurd h List.not_mem_nil) dMo_needs_143
  have hw := hw.2
  by_cases c_1_4 : a1 = 4
  · have hw := hw.1 c_1_4
    refine lv_tableIn (off := 121) (tgt := 122) hx hb dMo_needs_1 (by rw [c_1_4]; decide) (by rw [c_1_4]; decide) (by rw [c_1_4]; rfl) (by decide) ?_
    refine lv_aload_n hx hb dMo_needs_122 rfl (lv_at hl 0 rfl) ?_
    refine lv_iload_n hx hb dMo_needs_123 rfl (lv_at hl 2 rfl) ?_
    have hPc := hP.sub (ws' := [(h_mo, .inr (9, [.int mo_thrown, .long mo_steps, .int mo_cells, .int mo_nodes, .int mo_paragraphs, .int mo_waiting, .ref h_mD, .ref h_mV, .ref h_mK, .ref h_mA, .ref h_mB, .ref h_mW, .ref h_mN, .ref h_mQ, .ref h_mR, .ref h_mS, .int mo_at, .int mo_high, .int mo_begun, .int mo_raised, .int mo_next, .int mo_isSpent, .long mo_result, .ref h_mP, .ref h_mO, .ref h_mT, .ref h_mU, .int mo_fails])), (h_mK, .inl (cI, 201, .inl mK))]) [0, 1] rfl
    refine ro_ci (va_runV (As := [.int a2]) (rest := []) ⟨hx, hb, hml, hown, htb⟩ (met_Mo_isValue l dC dI cI cL cB h_mo h_mD h_mV h_mK h_mA h_mB h_mW h_mN h_mQ h_mR h_mS h_mP h_mO h_mT h_mU mo_thrown mo_steps mo_cells mo_nodes mo_paragraphs mo_waiting mo_at mo_high mo_begun mo_raised mo_next mo_isSpent mo_result mo_fails mK a2 _ hw) (cwV 1 htb (gdV kw_796 kw_798 kw_24 kw_48 kw_799) rfl rfl rfl (by decide +kernel) ⟨Nat.le_of_ble_eq_true rfl, Nat.le_of_ble_eq_true rfl⟩) ⟨fun a U g mk q => by obtain ⟨q0, qP, qK⟩ := q; exact ⟨q0, qP, KK_c qK⟩, va_recv hK.1 hP (ci := 9) (q0 := 0) rfl rfl, fun U hU hW => ⟨rfl, by rw [hU]; exact hPc, KK_w hW hK⟩⟩ rfl rfl hl.1 rfl (lv_room (Nat.le_of_ble_eq_true rfl)) dMo_needs_124 ⟨Nat.zero_le _, Nat.zero_le _⟩) (fun r_124 hw => ?_)
    try dsimp only at hw
    refine lv_if_eq (tgt := 142) hx hb dMo_needs_127 (by decide) (fun c_127 => ?_) (fun c_127 => ?_)
    · have hw := hw.1 c_127
      refine lv_iconst (v := 0) hx hb dMo_needs_142 (by decide) ?_
      exact W.zret (v := 0) hx hb hr (by decide) (fun t ht hW => ⟨_, rfl, hw, ht⟩) (fun q h => absurd h List.not_mem_nil) dMo_needs_143
    · have hw := hw.2 c_127
      refine lv_aload_n hx hb dMo_needs_130 rfl (lv_at hl 0 rfl) ?_
      refine lv_iload_n hx hb dMo_needs_131 rfl (lv_at hl 3 rfl) ?_
      have hPc := hP.sub (ws' := [(h_mo, .inr (9, [.int mo_thrown, .long mo_steps, .int mo_cells, .int mo_nodes, .int mo_paragraphs, .int mo_waiting, .ref h_mD, .ref h_mV, .ref h_mK, .ref h_mA, .ref h_mB, .ref h_mW, .ref h_mN, .ref h_mQ, .ref h_mR, .ref h_mS, .int mo_at, .int mo_high, .int mo_begun, .int mo_raised, .int mo_next, .int mo_isSpent, .long mo_result, .ref h_mP, .ref h_mO, .ref h_mT, .ref h_mU, .int mo_fails])), (h_mK, .inl (cI, 201, .inl mK))]) [0, 1] rfl
      refine ro_ci (va_runV (As := [.int a3]) (rest := []) ⟨hx, hb, hml, hown, htb⟩ (met_Mo_isValue l dC dI cI cL cB h_mo h_mD h_mV h_mK h_mA h_mB h_mW h_mN h_mQ h_mR h_mS h_mP h_mO h_mT h_mU mo_thrown mo_steps mo_cells mo_nodes mo_paragraphs mo_waiting mo_at mo_high mo_begun mo_raised mo_next mo_isSpent mo_result mo_fails mK a3 _ hw) (cwV 1 htb (gdV kw_796 kw_798 kw_24 kw_48 kw_799) rfl rfl rfl (by decide +kernel) ⟨Nat.le_of_ble_eq_true rfl, Nat.le_of_ble_eq_true rfl⟩) ⟨fun a U g mk q => by obtain ⟨q0, qP, qK⟩ := q; exact ⟨q0, qP, KK_c qK⟩, va_recv hK.1 hP (ci := 9) (q0 := 0) rfl rfl, fun U hU hW => ⟨rfl, by rw [hU]; exact hPc, KK_w hW hK⟩⟩ rfl rfl hl.1 rfl (lv_room (Nat.le_of_ble_eq_true rfl)) dMo_needs_132 ⟨Nat.zero_le _, Nat.zero_le _⟩) (fun r_132 hw => ?_)
      try dsimp only at hw
      refine lv_if_eq (tgt := 142) hx hb dMo_needs_135 (by decide) (fun c_135 => ?_) (fun c_135 => ?_)
      · have hw := hw.1 c_135
        refine lv_iconst (v := 0) hx hb dMo_needs_142 (by decide) ?_
        exact W.zret (v := 0) hx hb hr (by decide) (fun t ht hW => ⟨_, rfl, hw, ht⟩) (fun q h => absurd h List.not_mem_nil) dMo_needs_143
      · have hw := hw.2 c_135
        refine lv_iconst (v := 1) hx hb dMo_needs_138 (by decide) ?_
        refine lv_goto (tgt := 143) hx hb dMo_needs_139 (by decide) ?_
        exact W.zret (v := 1) hx hb hr (by decide) (fun t ht hW => ⟨_, rfl, hw, ht⟩) (fun q h => absurd h List.not_mem_nil) dMo_needs_143
  have hw := hw.2
  by_cases c_1_5 : a1 = 5
  · have hw := hw.1 c_1_5
    refine lv_tableIn (off := 121) (tgt := 122) hx hb dMo_needs_1 (by rw [c_1_5]; decide) (by rw [c_1_5]; decide) (by rw [c_1_5]; rfl) (by decide) ?_
    refine lv_aload_n hx hb dMo_needs_122 rfl (lv_at hl 0 rfl) ?_
    refine lv_iload_n hx hb dMo_needs_123 rfl (lv_at hl 2 rfl) ?_
    have hPc := hP.sub (ws' := [(h_mo, .inr (9, [.int mo_thrown, .long mo_steps, .int mo_cells, .int mo_nodes, .int mo_paragraphs, .int mo_waiting, .ref h_mD, .ref h_mV, .ref h_mK, .ref h_mA, .ref h_mB, .ref h_mW, .ref h_mN, .ref h_mQ, .ref h_mR, .ref h_mS, .int mo_at, .int mo_high, .int mo_begun, .int mo_raised, .int mo_next, .int mo_isSpent, .long mo_result, .ref h_mP, .ref h_mO, .ref h_mT, .ref h_mU, .int mo_fails])), (h_mK, .inl (cI, 201, .inl mK))]) [0, 1] rfl
    refine ro_ci (va_runV (As := [.int a2]) (rest := []) ⟨hx, hb, hml, hown, htb⟩ (met_Mo_isValue l dC dI cI cL cB h_mo h_mD h_mV h_mK h_mA h_mB h_mW h_mN h_mQ h_mR h_mS h_mP h_mO h_mT h_mU mo_thrown mo_steps mo_cells mo_nodes mo_paragraphs mo_waiting mo_at mo_high mo_begun mo_raised mo_next mo_isSpent mo_result mo_fails mK a2 _ hw) (cwV 1 htb (gdV kw_796 kw_798 kw_24 kw_48 kw_799) rfl rfl rfl (by decide +kernel) ⟨Nat.le_of_ble_eq_true rfl, Nat.le_of_ble_eq_true rfl⟩) ⟨fun a U g mk q => by obtain ⟨q0, qP, qK⟩ := q; exact ⟨q0, qP, KK_c qK⟩, va_recv hK.1 hP (ci := 9) (q0 := 0) rfl rfl, fun U hU hW => ⟨rfl, by rw [hU]; exact hPc, KK_w hW hK⟩⟩ rfl rfl hl.1 rfl (lv_room (Nat.le_of_ble_eq_true rfl)) dMo_needs_124 ⟨Nat.zero_le _, Nat.zero_le _⟩) (fun r_124 hw => ?_)
    try dsimp only at hw
    refine lv_if_eq (tgt := 142) hx hb dMo_needs_127 (by decide) (fun c_127 => ?_) (fun c_127 => ?_)
    · have hw := hw.1 c_127
      refine lv_iconst (v := 0) hx hb dMo_needs_142 (by decide) ?_
      exact W.zret (v := 0) hx hb hr (by decide) (fun t ht hW => ⟨_, rfl, hw, ht⟩) (fun q h => absurd h List.not_mem_nil) dMo_needs_143
    · have hw := hw.2 c_127
      refine lv_aload_n hx hb dMo_needs_130 rfl (lv_at hl 0 rfl) ?_
      refine lv_iload_n hx hb dMo_needs_131 rfl (lv_at hl 3 rfl) ?_
      have hPc := hP.sub (ws' := [(h_mo, .inr (9, [.int mo_thrown, .long mo_steps, .int mo_cells, .int mo_nodes, .int mo_paragraphs, .int mo_waiting, .ref h_mD, .ref h_mV, .ref h_mK, .ref h_mA, .ref h_mB, .ref h_mW, .ref h_mN, .ref h_mQ, .ref h_mR, .ref h_mS, .int mo_at, .int mo_high, .int mo_begun, .int mo_raised, .int mo_next, .int mo_isSpent, .long mo_result, .ref h_mP, .ref h_mO, .ref h_mT, .ref h_mU, .int mo_fails])), (h_mK, .inl (cI, 201, .inl mK))]) [0, 1] rfl
      refine ro_ci (va_runV (As := [.int a3]) (rest := []) ⟨hx, hb, hml, hown, htb⟩ (met_Mo_isValue l dC dI cI cL cB h_mo h_mD h_mV h_mK h_mA h_mB h_mW h_mN h_mQ h_mR h_mS h_mP h_mO h_mT h_mU mo_thrown mo_steps mo_cells mo_nodes mo_paragraphs mo_waiting mo_at mo_high mo_begun mo_raised mo_next mo_isSpent mo_result mo_fails mK a3 _ hw) (cwV 1 htb (gdV kw_796 kw_798 kw_24 kw_48 kw_799) rfl rfl rfl (by decide +kernel) ⟨Nat.le_of_ble_eq_true rfl, Nat.le_of_ble_eq_true rfl⟩) ⟨fun a U g mk q => by obtain ⟨q0, qP, qK⟩ := q; exact ⟨q0, qP, KK_c qK⟩, va_recv hK.1 hP (ci := 9) (q0 := 0) rfl rfl, fun U hU hW => ⟨rfl, by rw [hU]; exact hPc, KK_w hW hK⟩⟩ rfl rfl hl.1 rfl (lv_room (Nat.le_of_ble_eq_true rfl)) dMo_needs_132 ⟨Nat.zero_le _, Nat.zero_le _⟩) (fun r_132 hw => ?_)
      try dsimp only at hw
      refine lv_if_eq (tgt := 142) hx hb dMo_needs_135 (by decide) (fun c_135 => ?_) (fun c_135 => ?_)
      · have hw := hw.1 c_135
        refine lv_iconst (v := 0) hx hb dMo_needs_142 (by decide) ?_
        exact W.zret (v := 0) hx hb hr (by decide) (fun t ht hW => ⟨_, rfl, hw, ht⟩) (fun q h => absurd h List.not_mem_nil) dMo_needs_143
      · have hw := hw.2 c_135
        refine lv_iconst (v := 1) hx hb dMo_needs_138 (by decide) ?_
        refine lv_goto (tgt := 143) hx hb dMo_needs_139 (by decide) ?_
        exact W.zret (v := 1) hx hb hr (by decide) (fun t ht hW => ⟨_, rfl, hw, ht⟩) (fun q h => absurd h List.not_mem_nil) dMo_needs_143
  have hw := hw.2
  by_cases c_1_6 : a1 = 6
  · have hw := hw.1 c_1_6
    refine lv_tableIn (off := 121) (tgt := 122) hx hb dMo_needs_1 (by rw [c_1_6]; decide) (by rw [c_1_6]; decide) (by rw [c_1_6]; rfl) (by decide) ?_
    refine lv_aload_n hx hb dMo_needs_122 rfl (lv_at hl 0 rfl) ?_
    refine lv_iload_n hx hb dMo_needs_123 rfl (lv_at hl 2 rfl) ?_
    have hPc := hP.sub (ws' := [(h_mo, .inr (9, [.int mo_thrown, .long mo_steps, .int mo_cells, .int mo_nodes, .int mo_paragraphs, .int mo_waiting, .ref h_mD, .ref h_mV, .ref h_mK, .ref h_mA, .ref h_mB, .ref h_mW, .ref h_mN, .ref h_mQ, .ref h_mR, .ref h_mS, .int mo_at, .int mo_high, .int mo_begun, .int mo_raised, .int mo_next, .int mo_isSpent, .long mo_result, .ref h_mP, .ref h_mO, .ref h_mT, .ref h_mU, .int mo_fails])), (h_mK, .inl (cI, 201, .inl mK))]) [0, 1] rfl
    refine ro_ci (va_runV (As := [.int a2]) (rest := []) ⟨hx, hb, hml, hown, htb⟩ (met_Mo_isValue l dC dI cI cL cB h_mo h_mD h_mV h_mK h_mA h_mB h_mW h_mN h_mQ h_mR h_mS h_mP h_mO h_mT h_mU mo_thrown mo_steps mo_cells mo_nodes mo_paragraphs mo_waiting mo_at mo_high mo_begun mo_raised mo_next mo_isSpent mo_result mo_fails mK a2 _ hw) (cwV 1 htb (gdV kw_796 kw_798 kw_24 kw_48 kw_799) rfl rfl rfl (by decide +kernel) ⟨Nat.le_of_ble_eq_true rfl, Nat.le_of_ble_eq_true rfl⟩) ⟨fun a U g mk q => by obtain ⟨q0, qP, qK⟩ := q; exact ⟨q0, qP, KK_c qK⟩, va_recv hK.1 hP (ci := 9) (q0 := 0) rfl rfl, fun U hU hW => ⟨rfl, by rw [hU]; exact hPc, KK_w hW hK⟩⟩ rfl rfl hl.1 rfl (lv_room (Nat.le_of_ble_eq_true rfl)) dMo_needs_124 ⟨Nat.zero_le _, Nat.zero_le _⟩) (fun r_124 hw => ?_)
    try dsimp only at hw
    refine lv_if_eq (tgt := 142) hx hb dMo_needs_127 (by decide) (fun c_127 => ?_) (fun c_127 => ?_)
    · have hw := hw.1 c_127
      refine lv_iconst (v := 0) hx hb dMo_needs_142 (by decide) ?_
      exact W.zret (v := 0) hx hb hr (by decide) (fun t ht hW => ⟨_, rfl, hw, ht⟩) (fun q h => absurd h List.not_mem_nil) dMo_needs_143
    · have hw := hw.2 c_127
      refine lv_aload_n hx hb dMo_needs_130 rfl (lv_at hl 0 rfl) ?_
      refine lv_iload_n hx hb dMo_needs_131 rfl (lv_at hl 3 rfl) ?_
      have hPc := hP.sub (ws' := [(h_mo, .inr (9, [.int mo_thrown, .long mo_steps, .int mo_cells, .int mo_nodes, .int mo_paragraphs, .int mo_waiting, .ref h_mD, .ref h_mV, .ref h_mK, .ref h_mA, .ref h_mB, .ref h_mW, .ref h_mN, .ref h_mQ, .ref h_mR, .ref h_mS, .int mo_at, .int mo_high, .int mo_begun, .int mo_raised, .int mo_next, .int mo_isSpent, .long mo_result, .ref h_mP, .ref h_mO, .ref h_mT, .ref h_mU, .int mo_fails])), (h_mK, .inl (cI, 201, .inl mK))]) [0, 1] rfl
      refine ro_ci (va_runV (As := [.int a3]) (rest := []) ⟨hx, hb, hml, hown, htb⟩ (met_Mo_isValue l dC dI cI cL cB h_mo h_mD h_mV h_mK h_mA h_mB h_mW h_mN h_mQ h_mR h_mS h_mP h_mO h_mT h_mU mo_thrown mo_steps mo_cells mo_nodes mo_paragraphs mo_waiting mo_at mo_high mo_begun mo_raised mo_next mo_isSpent mo_result mo_fails mK a3 _ hw) (cwV 1 htb (gdV kw_796 kw_798 kw_24 kw_48 kw_799) rfl rfl rfl (by decide +kernel) ⟨Nat.le_of_ble_eq_true rfl, Nat.le_of_ble_eq_true rfl⟩) ⟨fun a U g mk q => by obtain ⟨q0, qP, qK⟩ := q; exact ⟨q0, qP, KK_c qK⟩, va_recv hK.1 hP (ci := 9) (q0 := 0) rfl rfl, fun U hU hW => ⟨rfl, by rw [hU]; exact hPc, KK_w hW hK⟩⟩ rfl rfl hl.1 rfl (lv_room (Nat.le_of_ble_eq_true rfl)) dMo_needs_132 ⟨Nat.zero_le _, Nat.zero_le _⟩) (fun r_132 hw => ?_)
      try dsimp only at hw
      refine lv_if_eq (tgt := 142) hx hb dMo_needs_135 (by decide) (fun c_135 => ?_) (fun c_135 => ?_)
      · have hw := hw.1 c_135
        refine lv_iconst (v := 0) hx hb dMo_needs_142 (by decide) ?_
        exact W.zret (v := 0) hx hb hr (by decide) (fun t ht hW => ⟨_, rfl, hw, ht⟩) (fun q h => absurd h List.not_mem_nil) dMo_needs_143
      · have hw := hw.2 c_135
        refine lv_iconst (v := 1) hx hb dMo_needs_138 (by decide) ?_
        refine lv_goto (tgt := 143) hx hb dMo_needs_139 (by decide) ?_
        exact W.zret (v := 1) hx hb hr (by decide) (fun t ht hW => ⟨_, rfl, hw, ht⟩) (fun q h => absurd h List.not_mem_nil) dMo_needs_143
  have hw := hw.2
  by_cases c_1_7 : a1 = 7
  · have hw := hw.1 c_1_7
    refine lv_tableIn (off := 121) (tgt := 122) hx hb dMo_needs_1 (by rw [c_1_7]; decide) (by rw [c_1_7]; decide) (by rw [c_1_7]; rfl) (by decide) ?_
    refine lv_aload_n hx hb dMo_needs_122 rfl (lv_at hl 0 rfl) ?_
    refine lv_iload_n hx hb dMo_needs_123 rfl (lv_at hl 2 rfl) ?_
    have hPc := hP.sub (ws' := [(h_mo, .inr (9, [.int mo_thrown, .long mo_steps, .int mo_cells, .int mo_nodes, .int mo_paragraphs, .int mo_waiting, .ref h_mD, .ref h_mV, .ref h_mK, .ref h_mA, .ref h_mB, .ref h_mW, .ref h_mN, .ref h_mQ, .ref h_mR, .ref h_mS, .int mo_at, .int mo_high, .int mo_begun, .int mo_raised, .int mo_next, .int mo_isSpent, .long mo_result, .ref h_mP, .ref h_mO, .ref h_mT, .ref h_mU, .int mo_fails])), (h_mK, .inl (cI, 201, .inl mK))]) [0, 1] rfl
    refine ro_ci (va_runV (As := [.int a2]) (rest := []) ⟨hx, hb, hml, hown, htb⟩ (met_Mo_isValue l dC dI cI cL cB h_mo h_mD h_mV h_mK h_mA h_mB h_mW h_mN h_mQ h_mR h_mS h_mP h_mO h_mT h_mU mo_thrown mo_steps mo_cells mo_nodes mo_paragraphs mo_waiting mo_at mo_high mo_begun mo_raised mo_next mo_isSpent mo_result mo_fails mK a2 _ hw) (cwV 1 htb (gdV kw_796 kw_798 kw_24 kw_48 kw_799) rfl rfl rfl (by decide +kernel) ⟨Nat.le_of_ble_eq_true rfl, Nat.le_of_ble_eq_true rfl⟩) ⟨fun a U g mk q => by obtain ⟨q0, qP, qK⟩ := q; exact ⟨q0, qP, KK_c qK⟩, va_recv hK.1 hP (ci := 9) (q0 := 0) rfl rfl, fun U hU hW => ⟨rfl, by rw [hU]; exact hPc, KK_w hW hK⟩⟩ rfl rfl hl.1 rfl (lv_room (Nat.le_of_ble_eq_true rfl)) dMo_needs_124 ⟨Nat.zero_le _, Nat.zero_le _⟩) (fun r_124 hw => ?_)
    try dsimp only at hw
    refine lv_if_eq (tgt := 142) hx hb dMo_needs_127 (by decide) (fun c_127 => ?_) (fun c_127 => ?_)
    · have hw := hw.1 c_127
      refine lv_iconst (v := 0) hx hb dMo_needs_142 (by decide) ?_
      exact W.zret (v := 0) hx hb hr (by decide) (fun t ht hW => ⟨_, rfl, hw, ht⟩) (fun q h => absurd h List.not_mem_nil) dMo_needs_143
    · have hw := hw.2 c_127
      refine lv_aload_n hx hb dMo_needs_130 rfl (lv_at hl 0 rfl) ?_
      refine lv_iload_n hx hb dMo_needs_131 rfl (lv_at hl 3 rfl) ?_
      have hPc := hP.sub (ws' := [(h_mo, .inr (9, [.int mo_thrown, .long mo_steps, .int mo_cells, .int mo_nodes, .int mo_paragraphs, .int mo_waiting, .ref h_mD, .ref h_mV, .ref h_mK, .ref h_mA, .ref h_mB, .ref h_mW, .ref h_mN, .ref h_mQ, .ref h_mR, .ref h_mS, .int mo_at, .int mo_high, .int mo_begun, .int mo_raised, .int mo_next, .int mo_isSpent, .long mo_result, .ref h_mP, .ref h_mO, .ref h_mT, .ref h_mU, .int mo_fails])), (h_mK, .inl (cI, 201, .inl mK))]) [0, 1] rfl
      refine ro_ci (va_runV (As := [.int a3]) (rest := []) ⟨hx, hb, hml, hown, htb⟩ (met_Mo_isValue l dC dI cI cL cB h_mo h_mD h_mV h_mK h_mA h_mB h_mW h_mN h_mQ h_mR h_mS h_mP h_mO h_mT h_mU mo_thrown mo_steps mo_cells mo_nodes mo_paragraphs mo_waiting mo_at mo_high mo_begun mo_raised mo_next mo_isSpent mo_result mo_fails mK a3 _ hw) (cwV 1 htb (gdV kw_796 kw_798 kw_24 kw_48 kw_799) rfl rfl rfl (by decide +kernel) ⟨Nat.le_of_ble_eq_true rfl, Nat.le_of_ble_eq_true rfl⟩) ⟨fun a U g mk q => by obtain ⟨q0, qP, qK⟩ := q; exact ⟨q0, qP, KK_c qK⟩, va_recv hK.1 hP (ci := 9) (q0 := 0) rfl rfl, fun U hU hW => ⟨rfl, by rw [hU]; exact hPc, KK_w hW hK⟩⟩ rfl rfl hl.1 rfl (lv_room (Nat.le_of_ble_eq_true rfl)) dMo_needs_132 ⟨Nat.zero_le _, Nat.zero_le _⟩) (fun r_132 hw => ?_)
      try dsimp only at hw
      refine lv_if_eq (tgt := 142) hx hb dMo_needs_135 (by decide) (fun c_135 => ?_) (fun c_135 => ?_)
      · have hw := hw.1 c_135
        refine lv_iconst (v := 0) hx hb dMo_needs_142 (by decide) ?_
        exact W.zret (v := 0) hx hb hr (by decide) (fun t ht hW => ⟨_, rfl, hw, ht⟩) (fun q h => absurd h List.not_mem_nil) dMo_needs_143
      · have hw := hw.2 c_135
        refine lv_iconst (v := 1) hx hb dMo_needs_138 (by decide) ?_
        refine lv_goto (tgt := 143) hx hb dMo_needs_139 (by decide) ?_
        exact W.zret (v := 1) hx hb hr (by decide) (fun t ht hW => ⟨_, rfl, hw, ht⟩) (fun q h => absurd h List.not_mem_nil) dMo_needs_143
  have hw := hw.2
  by_cases c_1_8 : a1 = 8
  · have hw := hw.1 c_1_8
    refine lv_tableIn (off := 121) (tgt := 122) hx hb dMo_needs_1 (by rw [c_1_8]; decide) (by rw [c_1_8]; decide) (by rw [c_1_8]; rfl) (by decide) ?_
    refine lv_aload_n hx hb dMo_needs_122 rfl (lv_at hl 0 rfl) ?_
    refine lv_iload_n hx hb dMo_needs_123 rfl (lv_at hl 2 rfl) ?_
    have hPc := hP.sub (ws' := [(h_mo, .inr (9, [.int mo_thrown, .long mo_steps, .int mo_cells, .int mo_nodes, .int mo_paragraphs, .int mo_waiting, .ref h_mD, .ref h_mV, .ref h_mK, .ref h_mA, .ref h_mB, .ref h_mW, .ref h_mN, .ref h_mQ, .ref h_mR, .ref h_mS, .int mo_at, .int mo_high, .int mo_begun, .int mo_raised, .int mo_next, .int mo_isSpent, .long mo_result, .ref h_mP, .ref h_mO, .ref h_mT, .ref h_mU, .int mo_fails])), (h_mK, .inl (cI, 201, .inl mK))]) [0, 1] rfl
    refine ro_ci (va_runV (As := [.int a2]) (rest := []) ⟨hx, hb, hml, hown, htb⟩ (met_Mo_isValue l dC dI cI cL cB h_mo h_mD h_mV h_mK h_mA h_mB h_mW h_mN h_mQ h_mR h_mS h_mP h_mO h_mT h_mU mo_thrown mo_steps mo_cells mo_nodes mo_paragraphs mo_waiting mo_at mo_high mo_begun mo_raised mo_next mo_isSpent mo_result mo_fails mK a2 _ hw) (cwV 1 htb (gdV kw_796 kw_798 kw_24 kw_48 kw_799) rfl rfl rfl (by decide +kernel) ⟨Nat.le_of_ble_eq_true rfl, Nat.le_of_ble_eq_true rfl⟩) ⟨fun a U g mk q => by obtain ⟨q0, qP, qK⟩ := q; exact ⟨q0, qP, KK_c qK⟩, va_recv hK.1 hP (ci := 9) (q0 := 0) rfl rfl, fun U hU hW => ⟨rfl, by rw [hU]; exact hPc, KK_w hW hK⟩⟩ rfl rfl hl.1 rfl (lv_room (Nat.le_of_ble_eq_true rfl)) dMo_needs_124 ⟨Nat.zero_le _, Nat.zero_le _⟩) (fun r_124 hw => ?_)
    try dsimp only at hw
    refine lv_if_eq (tgt := 142) hx hb dMo_needs_127 (by decide) (fun c_127 => ?_) (fun c_127 => ?_)
    · have hw := hw.1 c_127
      refine lv_iconst (v := 0) hx hb dMo_needs_142 (by decide) ?_
      exact W.zret (v := 0) hx hb hr (by decide) (fun t ht hW => ⟨_, rfl, hw, ht⟩) (fun q h => absurd h List.not_mem_nil) dMo_needs_143
    · have hw := hw.2 c_127
      refine lv_aload_n hx hb dMo_needs_130 rfl (lv_at hl 0 rfl) ?_
      refine lv_iload_n hx hb dMo_needs_131 rfl (lv_at hl 3 rfl) ?_
      have hPc := hP.sub (ws' := [(h_mo, .inr (9, [.int mo_thrown, .long mo_steps, .int mo_cells, .int mo_nodes, .int mo_paragraphs, .int mo_waiting, .ref h_mD, .ref h_mV, .ref h_mK, .ref h_mA, .ref h_mB, .ref h_mW, .ref h_mN, .ref h_mQ, .ref h_mR, .ref h_mS, .int mo_at, .int mo_high, .int mo_begun, .int mo_raised, .int mo_next, .int mo_isSpent, .long mo_result, .ref h_mP, .ref h_mO, .ref h_mT, .ref h_mU, .int mo_fails])), (h_mK, .inl (cI, 201, .inl mK))]) [0, 1] rfl
      refine ro_ci (va_runV (As := [.int a3]) (rest := []) ⟨hx, hb, hml, hown, htb⟩ (met_Mo_isValue l dC dI cI cL cB h_mo h_mD h_mV h_mK h_mA h_mB h_mW h_mN h_mQ h_mR h_mS h_mP h_mO h_mT h_mU mo_thrown mo_steps mo_cells mo_nodes mo_paragraphs mo_waiting mo_at mo_high mo_begun mo_raised mo_next mo_isSpent mo_result mo_fails mK a3 _ hw) (cwV 1 htb (gdV kw_796 kw_798 kw_24 kw_48 kw_799) rfl rfl rfl (by decide +kernel) ⟨Nat.le_of_ble_eq_true rfl, Nat.le_of_ble_eq_true rfl⟩) ⟨fun a U g mk q => by obtain ⟨q0, qP, qK⟩ := q; exact ⟨q0, qP, KK_c qK⟩, va_recv hK.1 hP (ci := 9) (q0 := 0) rfl rfl, fun U hU hW => ⟨rfl, by rw [hU]; exact hPc, KK_w hW hK⟩⟩ rfl rfl hl.1 rfl (lv_room (Nat.le_of_ble_eq_true rfl)) dMo_needs_132 ⟨Nat.zero_le _, Nat.zero_le _⟩) (fun r_132 hw => ?_)
      try dsimp only at hw
      refine lv_if_eq (tgt := 142) hx hb dMo_needs_135 (by decide) (fun c_135 => ?_) (fun c_135 => ?_)
      · have hw := hw.1 c_135
        refine lv_iconst (v := 0) hx hb dMo_needs_142 (by decide) ?_
        exact W.zret (v := 0) hx hb hr (by decide) (fun t ht hW => ⟨_, rfl, hw, ht⟩) (fun q h => absurd h List.not_mem_nil) dMo_needs_143
      · have hw := hw.2 c_135
        refine lv_iconst (v := 1) hx hb dMo_needs_138 (by decide) ?_
        refine lv_goto (tgt := 143) hx hb dMo_needs_139 (by decide) ?_
        exact W.zret (v := 1) hx hb hr (by decide) (fun t ht hW => ⟨_, rfl, hw, ht⟩) (fun q h => absurd h List.not_mem_nil) dMo_needs_143
  have hw := hw.2
  by_cases c_1_9 : a1 = 9
  · have hw := hw.1 c_1_9
    refine lv_tableIn (off := 143) (tgt := 144) hx hb dMo_needs_1 (by rw [c_1_9]; decide) (by rw [c_1_9]; decide) (by rw [c_1_9]; rfl) (by decide) ?_
    refine lv_aload_n hx hb dMo_needs_144 rfl (lv_at hl 0 rfl) ?_
    refine lv_iload_n hx hb dMo_needs_145 rfl (lv_at hl 2 rfl) ?_
    have hPc := hP.sub (ws' := [(h_mo, .inr (9, [.int mo_thrown, .long mo_steps, .int mo_cells, .int mo_nodes, .int mo_paragraphs, .int mo_waiting, .ref h_mD, .ref h_mV, .ref h_mK, .ref h_mA, .ref h_mB, .ref h_mW, .ref h_mN, .ref h_mQ, .ref h_mR, .ref h_mS, .int mo_at, .int mo_high, .int mo_begun, .int mo_raised, .int mo_next, .int mo_isSpent, .long mo_result, .ref h_mP, .ref h_mO, .ref h_mT, .ref h_mU, .int mo_fails]))]) [0] rfl
    refine ro_ci (va_runV (As := [.int a2]) (rest := []) ⟨hx, hb, hml, hown, htb⟩ (met_Mo_isCell l dC dI cI cL cB h_mo h_mD h_mV h_mK h_mA h_mB h_mW h_mN h_mQ h_mR h_mS h_mP h_mO h_mT h_mU mo_thrown mo_steps mo_cells mo_nodes mo_paragraphs mo_waiting mo_at mo_high mo_begun mo_raised mo_next mo_isSpent mo_result mo_fails a2 _ hw) (cwV 1 htb (gdV kw_792 kw_794 kw_23 kw_48 kw_795) rfl rfl rfl (by decide +kernel) ⟨Nat.le_of_ble_eq_true rfl, Nat.le_of_ble_eq_true rfl⟩) ⟨fun a U g mk q => by obtain ⟨q0, qP, qK⟩ := q; exact ⟨q0, qP, KK_c qK⟩, va_recv hK.1 hP (ci := 9) (q0 := 0) rfl rfl, fun U hU hW => ⟨rfl, by rw [hU]; exact hPc, KK_w hW hK⟩⟩ rfl rfl hl.1 rfl (lv_room (Nat.le_of_ble_eq_true rfl)) dMo_needs_146 ⟨Nat.zero_le _, Nat.zero_le _⟩) (fun r_146 hw => ?_)
    try dsimp only at hw
    refine lv_if_eq (tgt := 164) hx hb dMo_needs_149 (by decide) (fun c_149 => ?_) (fun c_149 => ?_)
    · have hw := hw.1 c_149
      refine lv_iconst (v := 0) hx hb dMo_needs_164 (by decide) ?_
      exact W.zret (v := 0) hx hb hr (by decide) (fun t ht hW => ⟨_, rfl, hw, ht⟩) (fun q h => absurd h List.not_mem_nil) dMo_needs_165
    · have hw := hw.2 c_149
      refine lv_aload_n hx hb dMo_needs_152 rfl (lv_at hl 0 rfl) ?_
      refine lv_iload_n hx hb dMo_needs_153 rfl (lv_at hl 3 rfl) ?_
      have hPc := hP.sub (ws' := [(h_mo, .inr (9, [.int mo_thrown, .long mo_steps, .int mo_cells, .int mo_nodes, .int mo_paragraphs, .int mo_waiting, .ref h_mD, .ref h_mV, .ref h_mK, .ref h_mA, .ref h_mB, .ref h_mW, .ref h_mN, .ref h_mQ, .ref h_mR, .ref h_mS, .int mo_at, .int mo_high, .int mo_begun, .int mo_raised, .int mo_next, .int mo_isSpent, .long mo_result, .ref h_mP, .ref h_mO, .ref h_mT, .ref h_mU, .int mo_fails])), (h_mK, .inl (cI, 201, .inl mK))]) [0, 1] rfl
      refine ro_ci (va_runV (As := [.int a3]) (rest := []) ⟨hx, hb, hml, hown, htb⟩ (met_Mo_isValue l dC dI cI cL cB h_mo h_mD h_mV h_mK h_mA h_mB h_mW h_mN h_mQ h_mR h_mS h_mP h_mO h_mT h_mU mo_thrown mo_steps mo_cells mo_nodes mo_paragraphs mo_waiting mo_at mo_high mo_begun mo_raised mo_next mo_isSpent mo_result mo_fails mK a3 _ hw) (cwV 1 htb (gdV kw_796 kw_798 kw_24 kw_48 kw_799) rfl rfl rfl (by decide +kernel) ⟨Nat.le_of_ble_eq_true rfl, Nat.le_of_ble_eq_true rfl⟩) ⟨fun a U g mk q => by obtain ⟨q0, qP, qK⟩ := q; exact ⟨q0, qP, KK_c qK⟩, va_recv hK.1 hP (ci := 9) (q0 := 0) rfl rfl, fun U hU hW => ⟨rfl, by rw [hU]; exact hPc, KK_w hW hK⟩⟩ rfl rfl hl.1 rfl (lv_room (Nat.le_of_ble_eq_true rfl)) dMo_needs_154 ⟨Nat.zero_le _, Nat.zero_le _⟩) (fun r_154 hw => ?_)
      try dsimp only at hw
      refine lv_if_eq (tgt := 164) hx hb dMo_needs_157 (by decide) (fun c_157 => ?_) (fun c_157 => ?_)
      · have hw := hw.1 c_157
        refine lv_iconst (v := 0) hx hb dMo_needs_164 (by decide) ?_
        exact W.zret (v := 0) hx hb hr (by decide) (fun t ht hW => ⟨_, rfl, hw, ht⟩) (fun q h => absurd h List.not_mem_nil) dMo_needs_165
      · have hw := hw.2 c_157
        refine lv_iconst (v := 1) hx hb dMo_needs_160 (by decide) ?_
        refine lv_goto (tgt := 165) hx hb dMo_needs_161 (by decide) ?_
        exact W.zret (v := 1) hx hb hr (by decide) (fun t ht hW => ⟨_, rfl, hw, ht⟩) (fun q h => absurd h List.not_mem_nil) dMo_needs_165
  have hw := hw.2
  by_cases c_1_10 : a1 = 10
  · have hw := hw.1 c_1_10
    refine lv_tableIn (off := 165) (tgt := 166) hx hb dMo_needs_1 (by rw [c_1_10]; decide) (by rw [c_1_10]; decide) (by rw [c_1_10]; rfl) (by decide) ?_
    refine lv_aload_n hx hb dMo_needs_166 rfl (lv_at hl 0 rfl) ?_
    refine lv_iload_n hx hb dMo_needs_167 rfl (lv_at hl 2 rfl) ?_
    have hPc := hP.sub (ws' := [(h_mo, .inr (9, [.int mo_thrown, .long mo_steps, .int mo_cells, .int mo_nodes, .int mo_paragraphs, .int mo_waiting, .ref h_mD, .ref h_mV, .ref h_mK, .ref h_mA, .ref h_mB, .ref h_mW, .ref h_mN, .ref h_mQ, .ref h_mR, .ref h_mS, .int mo_at, .int mo_high, .int mo_begun, .int mo_raised, .int mo_next, .int mo_isSpent, .long mo_result, .ref h_mP, .ref h_mO, .ref h_mT, .ref h_mU, .int mo_fails])), (h_mK, .inl (cI, 201, .inl mK))]) [0, 1] rfl
    refine ro_ci (va_runV (As := [.int a2]) (rest := []) ⟨hx, hb, hml, hown, htb⟩ (met_Mo_isStatement l dC dI cI cL cB h_mo h_mD h_mV h_mK h_mA h_mB h_mW h_mN h_mQ h_mR h_mS h_mP h_mO h_mT h_mU mo_thrown mo_steps mo_cells mo_nodes mo_paragraphs mo_waiting mo_at mo_high mo_begun mo_raised mo_next mo_isSpent mo_result mo_fails mK a2 _ hw) (cwV 1 htb (gdV kw_800 kw_802 kw_25 kw_48 kw_803) rfl rfl rfl (by decide +kernel) ⟨Nat.le_of_ble_eq_true rfl, Nat.le_of_ble_eq_true rfl⟩) ⟨fun a U g mk q => by obtain ⟨q0, qP, qK⟩ := q; exact ⟨q0, qP, KK_c qK⟩, va_recv hK.1 hP (ci := 9) (q0 := 0) rfl rfl, fun U hU hW => ⟨rfl, by rw [hU]; exact hPc, KK_w hW hK⟩⟩ rfl rfl hl.1 rfl (lv_room (Nat.le_of_ble_eq_true rfl)) dMo_needs_168 ⟨Nat.zero_le _, Nat.zero_le _⟩) (fun r_168 hw => ?_)
    try dsimp only at hw
    refine lv_if_eq (tgt := 186) hx hb dMo_needs_171 (by decide) (fun c_171 => ?_) (fun c_171 => ?_)
    · have hw := hw.1 c_171
      refine lv_iconst (v := 0) hx hb dMo_needs_186 (by decide) ?_
      exact W.zret (v := 0) hx hb hr (by decide) (fun t ht hW => ⟨_, rfl, hw, ht⟩) (fun q h => absurd h List.not_mem_nil) dMo_needs_187
    · have hw := hw.2 c_171
      refine lv_aload_n hx hb dMo_needs_174 rfl (lv_at hl 0 rfl) ?_
      refine lv_iload_n hx hb dMo_needs_175 rfl (lv_at hl 3 rfl) ?_
      have hPc := hP.sub (ws' := [(h_mo, .inr (9, [.int mo_thrown, .long mo_steps, .int mo_cells, .int mo_nodes, .int mo_paragraphs, .int mo_waiting, .ref h_mD, .ref h_mV, .ref h_mK, .ref h_mA, .ref h_mB, .ref h_mW, .ref h_mN, .ref h_mQ, .ref h_mR, .ref h_mS, .int mo_at, .int mo_high, .int mo_begun, .int mo_raised, .int mo_next, .int mo_isSpent, .long mo_result, .ref h_mP, .ref h_mO, .ref h_mT, .ref h_mU, .int mo_fails])), (h_mK, .inl (cI, 201, .inl mK))]) [0, 1] rfl
      refine ro_ci (va_runV (As := [.int a3]) (rest := []) ⟨hx, hb, hml, hown, htb⟩ (met_Mo_isStatement l dC dI cI cL cB h_mo h_mD h_mV h_mK h_mA h_mB h_mW h_mN h_mQ h_mR h_mS h_mP h_mO h_mT h_mU mo_thrown mo_steps mo_cells mo_nodes mo_paragraphs mo_waiting mo_at mo_high mo_begun mo_raised mo_next mo_isSpent mo_result mo_fails mK a3 _ hw) (cwV 1 htb (gdV kw_800 kw_802 kw_25 kw_48 kw_803) rfl rfl rfl (by decide +kernel) ⟨Nat.le_of_ble_eq_true rfl, Nat.le_of_ble_eq_true rfl⟩) ⟨fun a U g mk q => by obtain ⟨q0, qP, qK⟩ := q; exact ⟨q0, qP, KK_c qK⟩, va_recv hK.1 hP (ci := 9) (q0 := 0) rfl rfl, fun U hU hW => ⟨rfl, by rw [hU]; exact hPc, KK_w hW hK⟩⟩ rfl rfl hl.1 rfl (lv_room (Nat.le_of_ble_eq_true rfl)) dMo_needs_176 ⟨Nat.zero_le _, Nat.zero_le _⟩) (fun r_176 hw => ?_)
      try dsimp only at hw
      refine lv_if_eq (tgt := 186) hx hb dMo_needs_179 (by decide) (fun c_179 => ?_) (fun c_179 => ?_)
      · have hw := hw.1 c_179
        refine lv_iconst (v := 0) hx hb dMo_needs_186 (by decide) ?_
        exact W.zret (v := 0) hx hb hr (by decide) (fun t ht hW => ⟨_, rfl, hw, ht⟩) (fun q h => absurd h List.not_mem_nil) dMo_needs_187
      · have hw := hw.2 c_179
        refine lv_iconst (v := 1) hx hb dMo_needs_182 (by decide) ?_
        refine lv_goto (tgt := 187) hx hb dMo_needs_183 (by decide) ?_
        exact W.zret (v := 1) hx hb hr (by decide) (fun t ht hW => ⟨_, rfl, hw, ht⟩) (fun q h => absurd h List.not_mem_nil) dMo_needs_187
  have hw := hw.2
  by_cases c_1_11 : a1 = 11
  · have hw := hw.1 c_1_11
    refine lv_tableIn (off := 187) (tgt := 188) hx hb dMo_needs_1 (by rw [c_1_11]; decide) (by rw [c_1_11]; decide) (by rw [c_1_11]; rfl) (by decide) ?_
    refine lv_aload_n hx hb dMo_needs_188 rfl (lv_at hl 0 rfl) ?_
    refine lv_iload_n hx hb dMo_needs_189 rfl (lv_at hl 2 rfl) ?_
    have hPc := hP.sub (ws' := [(h_mo, .inr (9, [.int mo_thrown, .long mo_steps, .int mo_cells, .int mo_nodes, .int mo_paragraphs, .int mo_waiting, .ref h_mD, .ref h_mV, .ref h_mK, .ref h_mA, .ref h_mB, .ref h_mW, .ref h_mN, .ref h_mQ, .ref h_mR, .ref h_mS, .int mo_at, .int mo_high, .int mo_begun, .int mo_raised, .int mo_next, .int mo_isSpent, .long mo_result, .ref h_mP, .ref h_mO, .ref h_mT, .ref h_mU, .int mo_fails])), (h_mK, .inl (cI, 201, .inl mK))]) [0, 1] rfl
    refine ro_ci (va_runV (As := [.int a2]) (rest := []) ⟨hx, hb, hml, hown, htb⟩ (met_Mo_isValue l dC dI cI cL cB h_mo h_mD h_mV h_mK h_mA h_mB h_mW h_mN h_mQ h_mR h_mS h_mP h_mO h_mT h_mU mo_thrown mo_steps mo_cells mo_nodes mo_paragraphs mo_waiting mo_at mo_high mo_begun mo_raised mo_next mo_isSpent mo_result mo_fails mK a2 _ hw) (cwV 1 htb (gdV kw_796 kw_798 kw_24 kw_48 kw_799) rfl rfl rfl (by decide +kernel) ⟨Nat.le_of_ble_eq_true rfl, Nat.le_of_ble_eq_true rfl⟩) ⟨fun a U g mk q => by obtain ⟨q0, qP, qK⟩ := q; exact ⟨q0, qP, KK_c qK⟩, va_recv hK.1 hP (ci := 9) (q0 := 0) rfl rfl, fun U hU hW => ⟨rfl, by rw [hU]; exact hPc, KK_w hW hK⟩⟩ rfl rfl hl.1 rfl (lv_room (Nat.le_of_ble_eq_true rfl)) dMo_needs_190 ⟨Nat.zero_le _, Nat.zero_le _⟩) (fun r_190 hw => ?_)
    try dsimp only at hw
    refine lv_if_eq (tgt := 208) hx hb dMo_needs_193 (by decide) (fun c_193 => ?_) (fun c_193 => ?_)
    · have hw := hw.1 c_193
      refine lv_iconst (v := 0) hx hb dMo_needs_208 (by decide) ?_
      exact W.zret (v := 0) hx hb hr (by decide) (fun t ht hW => ⟨_, rfl, hw, ht⟩) (fun q h => absurd h List.not_mem_nil) dMo_needs_209
    · have hw := hw.2 c_193
      refine lv_aload_n hx hb dMo_needs_196 rfl (lv_at hl 0 rfl) ?_
      refine lv_iload_n hx hb dMo_needs_197 rfl (lv_at hl 3 rfl) ?_
      have hPc := hP.sub (ws' := [(h_mo, .inr (9, [.int mo_thrown, .long mo_steps, .int mo_cells, .int mo_nodes, .int mo_paragraphs, .int mo_waiting, .ref h_mD, .ref h_mV, .ref h_mK, .ref h_mA, .ref h_mB, .ref h_mW, .ref h_mN, .ref h_mQ, .ref h_mR, .ref h_mS, .int mo_at, .int mo_high, .int mo_begun, .int mo_raised, .int mo_next, .int mo_isSpent, .long mo_result, .ref h_mP, .ref h_mO, .ref h_mT, .ref h_mU, .int mo_fails])), (h_mK, .inl (cI, 201, .inl mK))]) [0, 1] rfl
      refine ro_ci (va_runV (As := [.int a3]) (rest := []) ⟨hx, hb, hml, hown, htb⟩ (met_Mo_isStatement l dC dI cI cL cB h_mo h_mD h_mV h_mK h_mA h_mB h_mW h_mN h_mQ h_mR h_mS h_mP h_mO h_mT h_mU mo_thrown mo_steps mo_cells mo_nodes mo_paragraphs mo_waiting mo_at mo_high mo_begun mo_raised mo_next mo_isSpent mo_result mo_fails mK a3 _ hw) (cwV 1 htb (gdV kw_800 kw_802 kw_25 kw_48 kw_803) rfl rfl rfl (by decide +kernel) ⟨Nat.le_of_ble_eq_true rfl, Nat.le_of_ble_eq_true rfl⟩) ⟨fun a U g mk q => by obtain ⟨q0, qP, qK⟩ := q; exact ⟨q0, qP, KK_c qK⟩, va_recv hK.1 hP (ci := 9) (q0 := 0) rfl rfl, fun U hU hW => ⟨rfl, by rw [hU]; exact hPc, KK_w hW hK⟩⟩ rfl rfl hl.1 rfl (lv_room (Nat.le_of_ble_eq_true rfl)) dMo_needs_198 ⟨Nat.zero_le _, Nat.zero_le _⟩) (fun r_198 hw => ?_)
      try dsimp only at hw
      refine lv_if_eq (tgt := 208) hx hb dMo_needs_201 (by decide) (fun c_201 => ?_) (fun c_201 => ?_)
      · have hw := hw.1 c_201
        refine lv_iconst (v := 0) hx hb dMo_needs_208 (by decide) ?_
        exact W.zret (v := 0) hx hb hr (by decide) (fun t ht hW => ⟨_, rfl, hw, ht⟩) (fun q h => absurd h List.not_mem_nil) dMo_needs_209
      · have hw := hw.2 c_201
        refine lv_iconst (v := 1) hx hb dMo_needs_204 (by decide) ?_
        refine lv_goto (tgt := 209) hx hb dMo_needs_205 (by decide) ?_
        exact W.zret (v := 1) hx hb hr (by decide) (fun t ht hW => ⟨_, rfl, hw, ht⟩) (fun q h => absurd h List.not_mem_nil) dMo_needs_209
  have hw := hw.2
  by_cases c_1_12 : a1 = 12
  · have hw := hw.1 c_1_12
    refine lv_tableIn (off := 209) (tgt := 210) hx hb dMo_needs_1 (by rw [c_1_12]; decide) (by rw [c_1_12]; decide) (by rw [c_1_12]; rfl) (by decide) ?_
    refine lv_aload_n hx hb dMo_needs_210 rfl (lv_at hl 0 rfl) ?_
    refine lv_iload_n hx hb dMo_needs_211 rfl (lv_at hl 2 rfl) ?_
    have hPc := hP.sub (ws' := [(h_mo, .inr (9, [.int mo_thrown, .long mo_steps, .int mo_cells, .int mo_nodes, .int mo_paragraphs, .int mo_waiting, .ref h_mD, .ref h_mV, .ref h_mK, .ref h_mA, .ref h_mB, .ref h_mW, .ref h_mN, .ref h_mQ, .ref h_mR, .ref h_mS, .int mo_at, .int mo_high, .int mo_begun, .int mo_raised, .int mo_next, .int mo_isSpent, .long mo_result, .ref h_mP, .ref h_mO, .ref h_mT, .ref h_mU, .int mo_fails])), (h_mK, .inl (cI, 201, .inl mK))]) [0, 1] rfl
    refine ro_ci (va_runV (As := [.int a2]) (rest := []) ⟨hx, hb, hml, hown, htb⟩ (met_Mo_isValue l dC dI cI cL cB h_mo h_mD h_mV h_mK h_mA h_mB h_mW h_mN h_mQ h_mR h_mS h_mP h_mO h_mT h_mU mo_thrown mo_steps mo_cells mo_nodes mo_paragraphs mo_waiting mo_at mo_high mo_begun mo_raised mo_next mo_isSpent mo_result mo_fails mK a2 _ hw) (cwV 1 htb (gdV kw_796 kw_798 kw_24 kw_48 kw_799) rfl rfl rfl (by decide +kernel) ⟨Nat.le_of_ble_eq_true rfl, Nat.le_of_ble_eq_true rfl⟩) ⟨fun a U g mk q => by obtain ⟨q0, qP, qK⟩ := q; exact ⟨q0, qP, KK_c qK⟩, va_recv hK.1 hP (ci := 9) (q0 := 0) rfl rfl, fun U hU hW => ⟨rfl, by rw [hU]; exact hPc, KK_w hW hK⟩⟩ rfl rfl hl.1 rfl (lv_room (Nat.le_of_ble_eq_true rfl)) dMo_needs_212 ⟨Nat.zero_le _, Nat.zero_le _⟩) (fun r_212 hw => ?_)
    try dsimp only at hw
    refine lv_if_eq (tgt := 232) hx hb dMo_needs_215 (by decide) (fun c_215 => ?_) (fun c_215 => ?_)
    · have hw := hw.1 c_215
      refine lv_iconst (v := 0) hx hb dMo_needs_232 (by decide) ?_
      exact W.zret (v := 0) hx hb hr (by decide) (fun t ht hW => ⟨_, rfl, hw, ht⟩) (fun q h => absurd h List.not_mem_nil) dMo_needs_233
    · have hw := hw.2 c_215
      refine lv_aload_n hx hb dMo_needs_218 rfl (lv_at hl 0 rfl) ?_
      refine lv_iload_n hx hb dMo_needs_219 rfl (lv_at hl 3 rfl) ?_
      refine lv_bipush (v := 13) hx hb dMo_needs_220 (by decide +kernel) ?_
      have hPc := hP.sub (ws' := [(h_mo, .inr (9, [.int mo_thrown, .long mo_steps, .int mo_cells, .int mo_nodes, .int mo_paragraphs, .int mo_waiting, .ref h_mD, .ref h_mV, .ref h_mK, .ref h_mA, .ref h_mB, .ref h_mW, .ref h_mN, .ref h_mQ, .ref h_mR, .ref h_mS, .int mo_at, .int mo_high, .int mo_begun, .int mo_raised, .int mo_next, .int mo_isSpent, .long mo_result, .ref h_mP, .ref h_mO, .ref h_mT, .ref h_mU, .int mo_fails])), (h_mK, .inl (cI, 201, .inl mK))]) [0, 1] rfl
      refine ro_ci (va_runV (As := [.int a3, .int 13]) (rest := []) ⟨hx, hb, hml, hown, htb⟩ (met_Mo_isKind l dC dI cI cL cB h_mo h_mD h_mV h_mK h_mA h_mB h_mW h_mN h_mQ h_mR h_mS h_mP h_mO h_mT h_mU mo_thrown mo_steps mo_cells mo_nodes mo_paragraphs mo_waiting mo_at mo_high mo_begun mo_raised mo_next mo_isSpent mo_result mo_fails mK a3 13 _ hw) (cwV 2 htb (gdV kw_804 kw_806 kw_26 kw_48 kw_807) rfl rfl rfl (by decide +kernel) ⟨Nat.le_of_ble_eq_true rfl, Nat.le_of_ble_eq_true rfl⟩) ⟨fun a U g mk q => by obtain ⟨q0, qP, qK⟩ := q; exact ⟨q0, qP, KK_c qK⟩, va_recv hK.1 hP (ci := 9) (q0 := 0) rfl rfl, fun U hU hW => ⟨rfl, by rw [hU]; exact hPc, KK_w hW hK⟩⟩ rfl rfl hl.1 rfl (lv_room (Nat.le_of_ble_eq_true rfl)) dMo_needs_222 ⟨Nat.zero_le _, Nat.zero_le _⟩) (fun r_222 hw => ?_)
      try dsimp only at hw
      refine lv_if_eq (tgt := 232) hx hb dMo_needs_225 (by decide) (fun c_225 => ?_) (fun c_225 => ?_)
      · have hw := hw.1 c_225
        refine lv_iconst (v := 0) hx hb dMo_needs_232 (by decide) ?_
        exact W.zret (v := 0) hx hb hr (by decide) (fun t ht hW => ⟨_, rfl, hw, ht⟩) (fun q h => absurd h List.not_mem_nil) dMo_needs_233
      · have hw := hw.2 c_225
        refine lv_iconst (v := 1) hx hb dMo_needs_228 (by decide) ?_
        refine lv_goto (tgt := 233) hx hb dMo_needs_229 (by decide) ?_
        exact W.zret (v := 1) hx hb hr (by decide) (fun t ht hW => ⟨_, rfl, hw, ht⟩) (fun q h => absurd h List.not_mem_nil) dMo_needs_233
  have hw := hw.2
  by_cases c_1_13 : a1 = 13
  · have hw := hw.1 c_1_13
    refine lv_tableIn (off := 165) (tgt := 166) hx hb dMo_needs_1 (by rw [c_1_13]; decide) (by rw [c_1_13]; decide) (by rw [c_1_13]; rfl) (by decide) ?_
    refine lv_aload_n hx hb dMo_needs_166 rfl (lv_at hl 0 rfl) ?_
    refine lv_iload_n hx hb dMo_needs_167 rfl (lv_at hl 2 rfl) ?_
    have hPc := hP.sub (ws' := [(h_mo, .inr (9, [.int mo_thrown, .long mo_steps, .int mo_cells, .int mo_nodes, .int mo_paragraphs, .int mo_waiting, .ref h_mD, .ref h_mV, .ref h_mK, .ref h_mA, .ref h_mB, .ref h_mW, .ref h_mN, .ref h_mQ, .ref h_mR, .ref h_mS, .int mo_at, .int mo_high, .int mo_begun, .int mo_raised, .int mo_next, .int mo_isSpent, .long mo_result, .ref h_mP, .ref h_mO, .ref h_mT, .ref h_mU, .int mo_fails])), (h_mK, .inl (cI, 201, .inl mK))]) [0, 1] rfl
    refine ro_ci (va_runV (As := [.int a2]) (rest := []) ⟨hx, hb, hml, hown, htb⟩ (met_Mo_isStatement l dC dI cI cL cB h_mo h_mD h_mV h_mK h_mA h_mB h_mW h_mN h_mQ h_mR h_mS h_mP h_mO h_mT h_mU mo_thrown mo_steps mo_cells mo_nodes mo_paragraphs mo_waiting mo_at mo_high mo_begun mo_raised mo_next mo_isSpent mo_result mo_fails mK a2 _ hw) (cwV 1 htb (gdV kw_800 kw_802 kw_25 kw_48 kw_803) rfl rfl rfl (by decide +kernel) ⟨Nat.le_of_ble_eq_true rfl, Nat.le_of_ble_eq_true rfl⟩) ⟨fun a U g mk q => by obtain ⟨q0, qP, qK⟩ := q; exact ⟨q0, qP, KK_c qK⟩, va_recv hK.1 hP (ci := 9) (q0 := 0) rfl rfl, fun U hU hW => ⟨rfl, by rw [hU]; exact hPc, KK_w hW hK⟩⟩ rfl rfl hl.1 rfl (lv_room (Nat.le_of_ble_eq_true rfl)) dMo_needs_168 ⟨Nat.zero_le _, Nat.zero_le _⟩) (fun r_168 hw => ?_)
    try dsimp only at hw
    refine lv_if_eq (tgt := 186) hx hb dMo_needs_171 (by decide) (fun c_171 => ?_) (fun c_171 => ?_)
    · have hw := hw.1 c_171
      refine lv_iconst (v := 0) hx hb dMo_needs_186 (by decide) ?_
      exact W.zret (v := 0) hx hb hr (by decide) (fun t ht hW => ⟨_, rfl, hw, ht⟩) (fun q h => absurd h List.not_mem_nil) dMo_needs_187
    · have hw := hw.2 c_171
      refine lv_aload_n hx hb dMo_needs_174 rfl (lv_at hl 0 rfl) ?_
      refine lv_iload_n hx hb dMo_needs_175 rfl (lv_at hl 3 rfl) ?_
      have hPc := hP.sub (ws' := [(h_mo, .inr (9, [.int mo_thrown, .long mo_steps, .int mo_cells, .int mo_nodes, .int mo_paragraphs, .int mo_waiting, .ref h_mD, .ref h_mV, .ref h_mK, .ref h_mA, .ref h_mB, .ref h_mW, .ref h_mN, .ref h_mQ, .ref h_mR, .ref h_mS, .int mo_at, .int mo_high, .int mo_begun, .int mo_raised, .int mo_next, .int mo_isSpent, .long mo_result, .ref h_mP, .ref h_mO, .ref h_mT, .ref h_mU, .int mo_fails])), (h_mK, .inl (cI, 201, .inl mK))]) [0, 1] rfl
      refine ro_ci (va_runV (As := [.int a3]) (rest := []) ⟨hx, hb, hml, hown, htb⟩ (met_Mo_isStatement l dC dI cI cL cB h_mo h_mD h_mV h_mK h_mA h_mB h_mW h_mN h_mQ h_mR h_mS h_mP h_mO h_mT h_mU mo_thrown mo_steps mo_cells mo_nodes mo_paragraphs mo_waiting mo_at mo_high mo_begun mo_raised mo_next mo_isSpent mo_result mo_fails mK a3 _ hw) (cwV 1 htb (gdV kw_800 kw_802 kw_25 kw_48 kw_803) rfl rfl rfl (by decide +kernel) ⟨Nat.le_of_ble_eq_true rfl, Nat.le_of_ble_eq_true rfl⟩) ⟨fun a U g mk q => by obtain ⟨q0, qP, qK⟩ := q; exact ⟨q0, qP, KK_c qK⟩, va_recv hK.1 hP (ci := 9) (q0 := 0) rfl rfl, fun U hU hW => ⟨rfl, by rw [hU]; exact hPc, KK_w hW hK⟩⟩ rfl rfl hl.1 rfl (lv_room (Nat.le_of_ble_eq_true rfl)) dMo_needs_176 ⟨Nat.zero_le _, Nat.zero_le _⟩) (fun r_176 hw => ?_)
      try dsimp only at hw
      refine lv_if_eq (tgt := 186) hx hb dMo_needs_179 (by decide) (fun c_179 => ?_) (fun c_179 => ?_)
      · have hw := hw.1 c_179
        refine lv_iconst (v := 0) hx hb dMo_needs_186 (by decide) ?_
        exact W.zret (v := 0) hx hb hr (by decide) (fun t ht hW => ⟨_, rfl, hw, ht⟩) (fun q h => absurd h List.not_mem_nil) dMo_needs_187
      · have hw := hw.2 c_179
        refine lv_iconst (v := 1) hx hb dMo_needs_182 (by decide) ?_
        refine lv_goto (tgt := 187) hx hb dMo_needs_183 (by decide) ?_
        exact W.zret (v := 1) hx hb hr (by decide) (fun t ht hW => ⟨_, rfl, hw, ht⟩) (fun q h => absurd h List.not_mem_nil) dMo_needs_187
  have hw := hw.2
  by_cases c_1_14 : a1 = 14
  · have hw := hw.1 c_1_14
    refine lv_tableIn (off := 233) (tgt := 234) hx hb dMo_needs_1 (by rw [c_1_14]; decide) (by rw [c_1_14]; decide) (by rw [c_1_14]; rfl) (by decide) ?_
    refine lv_aload_n hx hb dMo_needs_234 rfl (lv_at hl 0 rfl) ?_
    refine lv_iload_n hx hb dMo_needs_235 rfl (lv_at hl 2 rfl) ?_
    have hPc := hP.sub (ws' := [(h_mo, .inr (9, [.int mo_thrown, .long mo_steps, .int mo_cells, .int mo_nodes, .int mo_paragraphs, .int mo_waiting, .ref h_mD, .ref h_mV, .ref h_mK, .ref h_mA, .ref h_mB, .ref h_mW, .ref h_mN, .ref h_mQ, .ref h_mR, .ref h_mS, .int mo_at, .int mo_high, .int mo_begun, .int mo_raised, .int mo_next, .int mo_isSpent, .long mo_result, .ref h_mP, .ref h_mO, .ref h_mT, .ref h_mU, .int mo_fails])), (h_mK, .inl (cI, 201, .inl mK))]) [0, 1] rfl
    refine ro_ci (va_runV (As := [.int a2]) (rest := []) ⟨hx, hb, hml, hown, htb⟩ (met_Mo_isValue l dC dI cI cL cB h_mo h_mD h_mV h_mK h_mA h_mB h_mW h_mN h_mQ h_mR h_mS h_mP h_mO h_mT h_mU mo_thrown mo_steps mo_cells mo_nodes mo_paragraphs mo_waiting mo_at mo_high mo_begun mo_raised mo_next mo_isSpent mo_result mo_fails mK a2 _ hw) (cwV 1 htb (gdV kw_796 kw_798 kw_24 kw_48 kw_799) rfl rfl rfl (by decide +kernel) ⟨Nat.le_of_ble_eq_true rfl, Nat.le_of_ble_eq_true rfl⟩) ⟨fun a U g mk q => by obtain ⟨q0, qP, qK⟩ := q; exact ⟨q0, qP, KK_c qK⟩, va_recv hK.1 hP (ci := 9) (q0 := 0) rfl rfl, fun U hU hW => ⟨rfl, by rw [hU]; exact hPc, KK_w hW hK⟩⟩ rfl rfl hl.1 rfl (lv_room (Nat.le_of_ble_eq_true rfl)) dMo_needs_236 ⟨Nat.zero_le _, Nat.zero_le _⟩) (fun r_236 hw => ?_)
    try dsimp only at hw
    refine lv_if_eq (tgt := 256) hx hb dMo_needs_239 (by decide) (fun c_239 => ?_) (fun c_239 => ?_)
    · have hw := hw.1 c_239
      refine lv_iconst (v := 0) hx hb dMo_needs_256 (by decide) ?_
      exact W.zret (v := 0) hx hb hr (by decide) (fun t ht hW => ⟨_, rfl, hw, ht⟩) (fun q h => absurd h List.not_mem_nil) dMo_needs_257
    · have hw := hw.2 c_239
      refine lv_aload_n hx hb dMo_needs_242 rfl (lv_at hl 0 rfl) ?_
      refine lv_iload_n hx hb dMo_needs_243 rfl (lv_at hl 3 rfl) ?_
      refine lv_bipush (v := 15) hx hb dMo_needs_244 (by decide +kernel) ?_
      have hPc := hP.sub (ws' := [(h_mo, .inr (9, [.int mo_thrown, .long mo_steps, .int mo_cells, .int mo_nodes, .int mo_paragraphs, .int mo_waiting, .ref h_mD, .ref h_mV, .ref h_mK, .ref h_mA, .ref h_mB, .ref h_mW, .ref h_mN, .ref h_mQ, .ref h_mR, .ref h_mS, .int mo_at, .int mo_high, .int mo_begun, .int mo_raised, .int mo_next, .int mo_isSpent, .long mo_result, .ref h_mP, .ref h_mO, .ref h_mT, .ref h_mU, .int mo_fails])), (h_mK, .inl (cI, 201, .inl mK))]) [0, 1] rfl
      refine ro_ci (va_runV (As := [.int a3, .int 15]) (rest := []) ⟨hx, hb, hml, hown, htb⟩ (met_Mo_isKind l dC dI cI cL cB h_mo h_mD h_mV h_mK h_mA h_mB h_mW h_mN h_mQ h_mR h_mS h_mP h_mO h_mT h_mU mo_thrown mo_steps mo_cells mo_nodes mo_paragraphs mo_waiting mo_at mo_high mo_begun mo_raised mo_next mo_isSpent mo_result mo_fails mK a3 15 _ hw) (cwV 2 htb (gdV kw_804 kw_806 kw_26 kw_48 kw_807) rfl rfl rfl (by decide +kernel) ⟨Nat.le_of_ble_eq_true rfl, Nat.le_of_ble_eq_true rfl⟩) ⟨fun a U g mk q => by obtain ⟨q0, qP, qK⟩ := q; exact ⟨q0, qP, KK_c qK⟩, va_recv hK.1 hP (ci := 9) (q0 := 0) rfl rfl, fun U hU hW => ⟨rfl, by rw [hU]; exact hPc, KK_w hW hK⟩⟩ rfl rfl hl.1 rfl (lv_room (Nat.le_of_ble_eq_true rfl)) dMo_needs_246 ⟨Nat.zero_le _, Nat.zero_le _⟩) (fun r_246 hw => ?_)
      try dsimp only at hw
      refine lv_if_eq (tgt := 256) hx hb dMo_needs_249 (by decide) (fun c_249 => ?_) (fun c_249 => ?_)
      · have hw := hw.1 c_249
        refine lv_iconst (v := 0) hx hb dMo_needs_256 (by decide) ?_
        exact W.zret (v := 0) hx hb hr (by decide) (fun t ht hW => ⟨_, rfl, hw, ht⟩) (fun q h => absurd h List.not_mem_nil) dMo_needs_257
      · have hw := hw.2 c_249
        refine lv_iconst (v := 1) hx hb dMo_needs_252 (by decide) ?_
        refine lv_goto (tgt := 257) hx hb dMo_needs_253 (by decide) ?_
        exact W.zret (v := 1) hx hb hr (by decide) (fun t ht hW => ⟨_, rfl, hw, ht⟩) (fun q h => absurd h List.not_mem_nil) dMo_needs_257
  have hw := hw.2
  by_cases c_1_15 : a1 = 15
  · have hw := hw.1 c_1_15
    refine lv_tableIn (off := 257) (tgt := 258) hx hb dMo_needs_1 (by rw [c_1_15]; decide) (by rw [c_1_15]; decide) (by rw [c_1_15]; rfl) (by decide) ?_
    refine lv_aload_n hx hb dMo_needs_258 rfl (lv_at hl 0 rfl) ?_
    refine lv_iload_n hx hb dMo_needs_259 rfl (lv_at hl 2 rfl) ?_
    refine lv_bipush (v := 16) hx hb dMo_needs_260 (by decide +kernel) ?_
    have hPc := hP.sub (ws' := [(h_mo, .inr (9, [.int mo_thrown, .long mo_steps, .int mo_cells, .int mo_nodes, .int mo_paragraphs, .int mo_waiting, .ref h_mD, .ref h_mV, .ref h_mK, .ref h_mA, .ref h_mB, .ref h_mW, .ref h_mN, .ref h_mQ, .ref h_mR, .ref h_mS, .int mo_at, .int mo_high, .int mo_begun, .int mo_raised, .int mo_next, .int mo_isSpent, .long mo_result, .ref h_mP, .ref h_mO, .ref h_mT, .ref h_mU, .int mo_fails])), (h_mK, .inl (cI, 201, .inl mK))]) [0, 1] rfl
    refine ro_ci (va_runV (As := [.int a2, .int 16]) (rest := []) ⟨hx, hb, hml, hown, htb⟩ (met_Mo_isKind l dC dI cI cL cB h_mo h_mD h_mV h_mK h_mA h_mB h_mW h_mN h_mQ h_mR h_mS h_mP h_mO h_mT h_mU mo_thrown mo_steps mo_cells mo_nodes mo_paragraphs mo_waiting mo_at mo_high mo_begun mo_raised mo_next mo_isSpent mo_result mo_fails mK a2 16 _ hw) (cwV 2 htb (gdV kw_804 kw_806 kw_26 kw_48 kw_807) rfl rfl rfl (by decide +kernel) ⟨Nat.le_of_ble_eq_true rfl, Nat.le_of_ble_eq_true rfl⟩) ⟨fun a U g mk q => by obtain ⟨q0, qP, qK⟩ := q; exact ⟨q0, qP, KK_c qK⟩, va_recv hK.1 hP (ci := 9) (q0 := 0) rfl rfl, fun U hU hW => ⟨rfl, by rw [hU]; exact hPc, KK_w hW hK⟩⟩ rfl rfl hl.1 rfl (lv_room (Nat.le_of_ble_eq_true rfl)) dMo_needs_262 ⟨Nat.zero_le _, Nat.zero_le _⟩) (fun r_262 hw => ?_)
    try dsimp only at hw
    refine lv_if_eq (tgt := 286) hx hb dMo_needs_265 (by decide) (fun c_265 => ?_) (fun c_265 => ?_)
    · have hw := hw.1 c_265
      refine lv_iconst (v := 0) hx hb dMo_needs_286 (by decide) ?_
      exact W.zret (v := 0) hx hb hr (by decide) (fun t ht hW => ⟨_, rfl, hw, ht⟩) (fun q h => absurd h List.not_mem_nil) dMo_needs_287
    · have hw := hw.2 c_265
      refine lv_iload_n hx hb dMo_needs_268 rfl (lv_at hl 3 rfl) ?_
      refine lv_if_eq (tgt := 282) hx hb dMo_needs_269 (by decide) (fun c_269 => ?_) (fun c_269 => ?_)
      · have hw := hw.1 c_269
        refine lv_iconst (v := 1) hx hb dMo_needs_282 (by decide) ?_
        refine lv_goto (tgt := 287) hx hb dMo_needs_283 (by decide) ?_
        exact W.zret (v := 1) hx hb hr (by decide) (fun t ht hW => ⟨_, rfl, hw, ht⟩) (fun q h => absurd h List.not_mem_nil) dMo_needs_287
      · have hw := hw.2 c_269
        refine lv_aload_n hx hb dMo_needs_272 rfl (lv_at hl 0 rfl) ?_
        refine lv_iload_n hx hb dMo_needs_273 rfl (lv_at hl 3 rfl) ?_
        refine lv_bipush (v := 15) hx hb dMo_needs_274 (by decide +kernel) ?_
        have hPc := hP.sub (ws' := [(h_mo, .inr (9, [.int mo_thrown, .long mo_steps, .int mo_cells, .int mo_nodes, .int mo_paragraphs, .int mo_waiting, .ref h_mD, .ref h_mV, .ref h_mK, .ref h_mA, .ref h_mB, .ref h_mW, .ref h_mN, .ref h_mQ, .ref h_mR, .ref h_mS, .int mo_at, .int mo_high, .int mo_begun, .int mo_raised, .int mo_next, .int mo_isSpent, .long mo_result, .ref h_mP, .ref h_mO, .ref h_mT, .ref h_mU, .int mo_fails])), (h_mK, .inl (cI, 201, .inl mK))]) [0, 1] rfl
        refine ro_ci (va_runV (As := [.int a3, .int 15]) (rest := []) ⟨hx, hb, hml, hown, htb⟩ (met_Mo_isKind l dC dI cI cL cB h_mo h_mD h_mV h_mK h_mA h_mB h_mW h_mN h_mQ h_mR h_mS h_mP h_mO h_mT h_mU mo_thrown mo_steps mo_cells mo_nodes mo_paragraphs mo_waiting mo_at mo_high mo_begun mo_raised mo_next mo_isSpent mo_result mo_fails mK a3 15 _ hw) (cwV 2 htb (gdV kw_804 kw_806 kw_26 kw_48 kw_807) rfl rfl rfl (by decide +kernel) ⟨Nat.le_of_ble_eq_true rfl, Nat.le_of_ble_eq_true rfl⟩) ⟨fun a U g mk q => by obtain ⟨q0, qP, qK⟩ := q; exact ⟨q0, qP, KK_c qK⟩, va_recv hK.1 hP (ci := 9) (q0 := 0) rfl rfl, fun U hU hW => ⟨rfl, by rw [hU]; exact hPc, KK_w hW hK⟩⟩ rfl rfl hl.1 rfl (lv_room (Nat.le_of_ble_eq_true rfl)) dMo_needs_276 ⟨Nat.zero_le _, Nat.zero_le _⟩) (fun r_276 hw => ?_)
        try dsimp only at hw
        refine lv_if_eq (tgt := 286) hx hb dMo_needs_279 (by decide) (fun c_279 => ?_) (fun c_279 => ?_)
        · have hw := hw.1 c_279
          refine lv_iconst (v := 0) hx hb dMo_needs_286 (by decide) ?_
          exact W.zret (v := 0) hx hb hr (by decide) (fun t ht hW => ⟨_, rfl, hw, ht⟩) (fun q h => absurd h List.not_mem_nil) dMo_needs_287
        · have hw := hw.2 c_279
          refine lv_iconst (v := 1) hx hb dMo_needs_282 (by decide) ?_
          refine lv_goto (tgt := 287) hx hb dMo_needs_283 (by decide) ?_
          exact W.zret (v := 1) hx hb hr (by decide) (fun t ht hW => ⟨_, rfl, hw, ht⟩) (fun q h => absurd h List.not_mem_nil) dMo_needs_287
  have hw := hw.2
  by_cases c_1_16 : a1 = 16
  · have hw := hw.1 c_1_16
    refine lv_tableIn (off := 287) (tgt := 288) hx hb dMo_needs_1 (by rw [c_1_16]; decide) (by rw [c_1_16]; decide) (by rw [c_1_16]; rfl) (by decide) ?_
    refine lv_iload_n hx hb dMo_needs_288 rfl (lv_at hl 2 rfl) ?_
    refine lv_if_eq (tgt := 310) hx hb dMo_needs_289 (by decide) (fun c_289 => ?_) (fun c_289 => ?_)
    · have hw := hw.1 c_289
      refine lv_aload_n hx hb dMo_needs_310 rfl (lv_at hl 0 rfl) ?_
      refine lv_iload_n hx hb dMo_needs_311 rfl (lv_at hl 3 rfl) ?_
      have hPc := hP.sub (ws' := [(h_mo, .inr (9, [.int mo_thrown, .long mo_steps, .int mo_cells, .int mo_nodes, .int mo_paragraphs, .int mo_waiting, .ref h_mD, .ref h_mV, .ref h_mK, .ref h_mA, .ref h_mB, .ref h_mW, .ref h_mN, .ref h_mQ, .ref h_mR, .ref h_mS, .int mo_at, .int mo_high, .int mo_begun, .int mo_raised, .int mo_next, .int mo_isSpent, .long mo_result, .ref h_mP, .ref h_mO, .ref h_mT, .ref h_mU, .int mo_fails])), (h_mK, .inl (cI, 201, .inl mK))]) [0, 1] rfl
      refine ro_ci (va_runV (As := [.int a3]) (rest := []) ⟨hx, hb, hml, hown, htb⟩ (met_Mo_isStatement l dC dI cI cL cB h_mo h_mD h_mV h_mK h_mA h_mB h_mW h_mN h_mQ h_mR h_mS h_mP h_mO h_mT h_mU mo_thrown mo_steps mo_cells mo_nodes mo_paragraphs mo_waiting mo_at mo_high mo_begun mo_raised mo_next mo_isSpent mo_result mo_fails mK a3 _ hw) (cwV 1 htb (gdV kw_800 kw_802 kw_25 kw_48 kw_803) rfl rfl rfl (by decide +kernel) ⟨Nat.le_of_ble_eq_true rfl, Nat.le_of_ble_eq_true rfl⟩) ⟨fun a U g mk q => by obtain ⟨q0, qP, qK⟩ := q; exact ⟨q0, qP, KK_c qK⟩, va_recv hK.1 hP (ci := 9) (q0 := 0) rfl rfl, fun U hU hW => ⟨rfl, by rw [hU]; exact hPc, KK_w hW hK⟩⟩ rfl rfl hl.1 rfl (lv_room (Nat.le_of_ble_eq_true rfl)) dMo_needs_312 ⟨Nat.zero_le _, Nat.zero_le _⟩) (fun r_312 hw => ?_)
      try dsimp only at hw
      refine lv_if_eq (tgt := 322) hx hb dMo_needs_315 (by decide) (fun c_315 => ?_) (fun c_315 => ?_)
      · have hw := hw.1 c_315
        refine lv_iconst (v := 0) hx hb dMo_needs_322 (by decide) ?_
        exact W.zret (v := 0) hx hb hr (by decide) (fun t ht hW => ⟨_, rfl, hw, ht⟩) (fun q h => absurd h List.not_mem_nil) dMo_needs_323
      · have hw := hw.2 c_315
        refine lv_iconst (v := 1) hx hb dMo_needs_318 (by decide) ?_
        refine lv_goto (tgt := 323) hx hb dMo_needs_319 (by decide) ?_
        exact W.zret (v := 1) hx hb hr (by decide) (fun t ht hW => ⟨_, rfl, hw, ht⟩) (fun q h => absurd h List.not_mem_nil) dMo_needs_323
    · have hw := hw.2 c_289
      refine lv_aload_n hx hb dMo_needs_292 rfl (lv_at hl 0 rfl) ?_
      refine lv_iload_n hx hb dMo_needs_293 rfl (lv_at hl 2 rfl) ?_
      have hPc := hP.sub (ws' := [(h_mo, .inr (9, [.int mo_thrown, .long mo_steps, .int mo_cells, .int mo_nodes, .int mo_paragraphs, .int mo_waiting, .ref h_mD, .ref h_mV, .ref h_mK, .ref h_mA, .ref h_mB, .ref h_mW, .ref h_mN, .ref h_mQ, .ref h_mR, .ref h_mS, .int mo_at, .int mo_high, .int mo_begun, .int mo_raised, .int mo_next, .int mo_isSpent, .long mo_result, .ref h_mP, .ref h_mO, .ref h_mT, .ref h_mU, .int mo_fails])), (h_mK, .inl (cI, 201, .inl mK))]) [0, 1] rfl
      refine ro_ci (va_runV (As := [.int a2]) (rest := []) ⟨hx, hb, hml, hown, htb⟩ (met_Mo_isValue l dC dI cI cL cB h_mo h_mD h_mV h_mK h_mA h_mB h_mW h_mN h_mQ h_mR h_mS h_mP h_mO h_mT h_mU mo_thrown mo_steps mo_cells mo_nodes mo_paragraphs mo_waiting mo_at mo_high mo_begun mo_raised mo_next mo_isSpent mo_result mo_fails mK a2 _ hw) (cwV 1 htb (gdV kw_796 kw_798 kw_24 kw_48 kw_799) rfl rfl rfl (by decide +kernel) ⟨Nat.le_of_ble_eq_true rfl, Nat.le_of_ble_eq_true rfl⟩) ⟨fun a U g mk q => by obtain ⟨q0, qP, qK⟩ := q; exact ⟨q0, qP, KK_c qK⟩, va_recv hK.1 hP (ci := 9) (q0 := 0) rfl rfl, fun U hU hW => ⟨rfl, by rw [hU]; exact hPc, KK_w hW hK⟩⟩ rfl rfl hl.1 rfl (lv_room (Nat.le_of_ble_eq_true rfl)) dMo_needs_294 ⟨Nat.zero_le _, Nat.zero_le _⟩) (fun r_294 hw => ?_)
      try dsimp only at hw
      refine lv_if_ne (tgt := 310) hx hb dMo_needs_297 (by decide) (fun c_297 => ?_) (fun c_297 => ?_)
      · have hw := hw.1 c_297
        refine lv_aload_n hx hb dMo_needs_310 rfl (lv_at hl 0 rfl) ?_
        refine lv_iload_n hx hb dMo_needs_311 rfl (lv_at hl 3 rfl) ?_
        have hPc := hP.sub (ws' := [(h_mo, .inr (9, [.int mo_thrown, .long mo_steps, .int mo_cells, .int mo_nodes, .int mo_paragraphs, .int mo_waiting, .ref h_mD, .ref h_mV, .ref h_mK, .ref h_mA, .ref h_mB, .ref h_mW, .ref h_mN, .ref h_mQ, .ref h_mR, .ref h_mS, .int mo_at, .int mo_high, .int mo_begun, .int mo_raised, .int mo_next, .int mo_isSpent, .long mo_result, .ref h_mP, .ref h_mO, .ref h_mT, .ref h_mU, .int mo_fails])), (h_mK, .inl (cI, 201, .inl mK))]) [0, 1] rfl
        refine ro_ci (va_runV (As := [.int a3]) (rest := []) ⟨hx, hb, hml, hown, htb⟩ (met_Mo_isStatement l dC dI cI cL cB h_mo h_mD h_mV h_mK h_mA h_mB h_mW h_mN h_mQ h_mR h_mS h_mP h_mO h_mT h_mU mo_thrown mo_steps mo_cells mo_nodes mo_paragraphs mo_waiting mo_at mo_high mo_begun mo_raised mo_next mo_isSpent mo_result mo_fails mK a3 _ hw) (cwV 1 htb (gdV kw_800 kw_802 kw_25 kw_48 kw_803) rfl rfl rfl (by decide +kernel) ⟨Nat.le_of_ble_eq_true rfl, Nat.le_of_ble_eq_true rfl⟩) ⟨fun a U g mk q => by obtain ⟨q0, qP, qK⟩ := q; exact ⟨q0, qP, KK_c qK⟩, va_recv hK.1 hP (ci := 9) (q0 := 0) rfl rfl, fun U hU hW => ⟨rfl, by rw [hU]; exact hPc, KK_w hW hK⟩⟩ rfl rfl hl.1 rfl (lv_room (Nat.le_of_ble_eq_true rfl)) dMo_needs_312 ⟨Nat.zero_le _, Nat.zero_le _⟩) (fun r_312 hw => ?_)
        try dsimp only at hw
        refine lv_if_eq (tgt := 322) hx hb dMo_needs_315 (by decide) (fun c_315 => ?_) (fun c_315 => ?_)
        · have hw := hw.1 c_315
          refine lv_iconst (v := 0) hx hb dMo_needs_322 (by decide) ?_
          exact W.zret (v := 0) hx hb hr (by decide) (fun t ht hW => ⟨_, rfl, hw, ht⟩) (fun q h => absurd h List.not_mem_nil) dMo_needs_323
        · have hw := hw.2 c_315
          refine lv_iconst (v := 1) hx hb dMo_needs_318 (by decide) ?_
          refine lv_goto (tgt := 323) hx hb dMo_needs_319 (by decide) ?_
          exact W.zret (v := 1) hx hb hr (by decide) (fun t ht hW => ⟨_, rfl, hw, ht⟩) (fun q h => absurd h List.not_mem_nil) dMo_needs_323
      · have hw := hw.2 c_297
        refine lv_aload_n hx hb dMo_needs_300 rfl (lv_at hl 0 rfl) ?_
        refine lv_iload_n hx hb dMo_needs_301 rfl (lv_at hl 2 rfl) ?_
        refine lv_bipush (v := 8) hx hb dMo_needs_302 (by decide +kernel) ?_
        have hPc := hP.sub (ws' := [(h_mo, .inr (9, [.int mo_thrown, .long mo_steps, .int mo_cells, .int mo_nodes, .int mo_paragraphs, .int mo_waiting, .ref h_mD, .ref h_mV, .ref h_mK, .ref h_mA, .ref h_mB, .ref h_mW, .ref h_mN, .ref h_mQ, .ref h_mR, .ref h_mS, .int mo_at, .int mo_high, .int mo_begun, .int mo_raised, .int mo_next, .int mo_isSpent, .long mo_result, .ref h_mP, .ref h_mO, .ref h_mT, .ref h_mU, .int mo_fails])), (h_mK, .inl (cI, 201, .inl mK))]) [0, 1] rfl
        refine ro_ci (va_runV (As := [.int a2, .int 8]) (rest := []) ⟨hx, hb, hml, hown, htb⟩ (met_Mo_isKind l dC dI cI cL cB h_mo h_mD h_mV h_mK h_mA h_mB h_mW h_mN h_mQ h_mR h_mS h_mP h_mO h_mT h_mU mo_thrown mo_steps mo_cells mo_nodes mo_paragraphs mo_waiting mo_at mo_high mo_begun mo_raised mo_next mo_isSpent mo_result mo_fails mK a2 8 _ hw) (cwV 2 htb (gdV kw_804 kw_806 kw_26 kw_48 kw_807) rfl rfl rfl (by decide +kernel) ⟨Nat.le_of_ble_eq_true rfl, Nat.le_of_ble_eq_true rfl⟩) ⟨fun a U g mk q => by obtain ⟨q0, qP, qK⟩ := q; exact ⟨q0, qP, KK_c qK⟩, va_recv hK.1 hP (ci := 9) (q0 := 0) rfl rfl, fun U hU hW => ⟨rfl, by rw [hU]; exact hPc, KK_w hW hK⟩⟩ rfl rfl hl.1 rfl (lv_room (Nat.le_of_ble_eq_true rfl)) dMo_needs_304 ⟨Nat.zero_le _, Nat.zero_le _⟩) (fun r_304 hw => ?_)
        try dsimp only at hw
        refine lv_if_eq (tgt := 322) hx hb dMo_needs_307 (by decide) (fun c_307 => ?_) (fun c_307 => ?_)
        · have hw := hw.1 c_307
          refine lv_iconst (v := 0) hx hb dMo_needs_322 (by decide) ?_
          exact W.zret (v := 0) hx hb hr (by decide) (fun t ht hW => ⟨_, rfl, hw, ht⟩) (fun q h => absurd h List.not_mem_nil) dMo_needs_323
        · have hw := hw.2 c_307
          refine lv_aload_n hx hb dMo_needs_310 rfl (lv_at hl 0 rfl) ?_
          refine lv_iload_n hx hb dMo_needs_311 rfl (lv_at hl 3 rfl) ?_
          have hPc := hP.sub (ws' := [(h_mo, .inr (9, [.int mo_thrown, .long mo_steps, .int mo_cells, .int mo_nodes, .int mo_paragraphs, .int mo_waiting, .ref h_mD, .ref h_mV, .ref h_mK, .ref h_mA, .ref h_mB, .ref h_mW, .ref h_mN, .ref h_mQ, .ref h_mR, .ref h_mS, .int mo_at, .int mo_high, .int mo_begun, .int mo_raised, .int mo_next, .int mo_isSpent, .long mo_result, .ref h_mP, .ref h_mO, .ref h_mT, .ref h_mU, .int mo_fails])), (h_mK, .inl (cI, 201, .inl mK))]) [0, 1] rfl
          refine ro_ci (va_runV (As := [.int a3]) (rest := []) ⟨hx, hb, hml, hown, htb⟩ (met_Mo_isStatement l dC dI cI cL cB h_mo h_mD h_mV h_mK h_mA h_mB h_mW h_mN h_mQ h_mR h_mS h_mP h_mO h_mT h_mU mo_thrown mo_steps mo_cells mo_nodes mo_paragraphs mo_waiting mo_at mo_high mo_begun mo_raised mo_next mo_isSpent mo_result mo_fails mK a3 _ hw) (cwV 1 htb (gdV kw_800 kw_802 kw_25 kw_48 kw_803) rfl rfl rfl (by decide +kernel) ⟨Nat.le_of_ble_eq_true rfl, Nat.le_of_ble_eq_true rfl⟩) ⟨fun a U g mk q => by obtain ⟨q0, qP, qK⟩ := q; exact ⟨q0, qP, KK_c qK⟩, va_recv hK.1 hP (ci := 9) (q0 := 0) rfl rfl, fun U hU hW => ⟨rfl, by rw [hU]; exact hPc, KK_w hW hK⟩⟩ rfl rfl hl.1 rfl (lv_room (Nat.le_of_ble_eq_true rfl)) dMo_needs_312 ⟨Nat.zero_le _, Nat.zero_le _⟩) (fun r_312 hw => ?_)
          try dsimp only at hw
          refine lv_if_eq (tgt := 322) hx hb dMo_needs_315 (by decide) (fun c_315 => ?_) (fun c_315 => ?_)
          · have hw := hw.1 c_315
            refine lv_iconst (v := 0) hx hb dMo_needs_322 (by decide) ?_
            exact W.zret (v := 0) hx hb hr (by decide) (fun t ht hW => ⟨_, rfl, hw, ht⟩) (fun q h => absurd h List.not_mem_nil) dMo_needs_323
          · have hw := hw.2 c_315
            refine lv_iconst (v := 1) hx hb dMo_needs_318 (by decide) ?_
            refine lv_goto (tgt := 323) hx hb dMo_needs_319 (by decide) ?_
            exact W.zret (v := 1) hx hb hr (by decide) (fun t ht hW => ⟨_, rfl, hw, ht⟩) (fun q h => absurd h List.not_mem_nil) dMo_needs_323
  have hw := hw.2
  by_cases c_1_18 : a1 = 18
  · have hw := hw.1 c_1_18
    refine lv_tableIn (off := 323) (tgt := 324) hx hb dMo_needs_1 (by rw [c_1_18]; decide) (by rw [c_1_18]; decide) (by rw [c_1_18]; rfl) (by decide) ?_
    refine lv_aload_n hx hb dMo_needs_324 rfl (lv_at hl 0 rfl) ?_
    refine lv_iload_n hx hb dMo_needs_325 rfl (lv_at hl 3 rfl) ?_
    have hPc := hP.sub (ws' := [(h_mo, .inr (9, [.int mo_thrown, .long mo_steps, .int mo_cells, .int mo_nodes, .int mo_paragraphs, .int mo_waiting, .ref h_mD, .ref h_mV, .ref h_mK, .ref h_mA, .ref h_mB, .ref h_mW, .ref h_mN, .ref h_mQ, .ref h_mR, .ref h_mS, .int mo_at, .int mo_high, .int mo_begun, .int mo_raised, .int mo_next, .int mo_isSpent, .long mo_result, .ref h_mP, .ref h_mO, .ref h_mT, .ref h_mU, .int mo_fails])), (h_mK, .inl (cI, 201, .inl mK))]) [0, 1] rfl
    refine ro_ci (va_runV (As := [.int a3]) (rest := []) ⟨hx, hb, hml, hown, htb⟩ (met_Mo_isValue l dC dI cI cL cB h_mo h_mD h_mV h_mK h_mA h_mB h_mW h_mN h_mQ h_mR h_mS h_mP h_mO h_mT h_mU mo_thrown mo_steps mo_cells mo_nodes mo_paragraphs mo_waiting mo_at mo_high mo_begun mo_raised mo_next mo_isSpent mo_result mo_fails mK a3 _ hw) (cwV 1 htb (gdV kw_796 kw_798 kw_24 kw_48 kw_799) rfl rfl rfl (by decide +kernel) ⟨Nat.le_of_ble_eq_true rfl, Nat.le_of_ble_eq_true rfl⟩) ⟨fun a U g mk q => by obtain ⟨q0, qP, qK⟩ := q; exact ⟨q0, qP, KK_c qK⟩, va_recv hK.1 hP (ci := 9) (q0 := 0) rfl rfl, fun U hU hW => ⟨rfl, by rw [hU]; exact hPc, KK_w hW hK⟩⟩ rfl rfl hl.1 rfl (lv_room (Nat.le_of_ble_eq_true rfl)) dMo_needs_326 ⟨Nat.zero_le _, Nat.zero_le _⟩) (fun r_326 hw => ?_)
    try dsimp only at hw
    obtain ⟨hbz, hw⟩ := hw
    exact W.zret (v := r_326) hx hb hr (bz_nar hbz) (fun t ht hW => ⟨_, rfl, hw, ht⟩) (fun q h => absurd h List.not_mem_nil) dMo_needs_329
  have hw := hw.2
  by_cases c_1_22 : a1 = 22
  · have hw := hw.1 c_1_22
    refine lv_tableIn (off := 329) (tgt := 330) hx hb dMo_needs_1 (by rw [c_1_22]; decide) (by rw [c_1_22]; decide) (by rw [c_1_22]; rfl) (by decide) ?_
    refine lv_aload_n hx hb dMo_needs_330 rfl (lv_at hl 0 rfl) ?_
    refine lv_iload_n hx hb dMo_needs_331 rfl (lv_at hl 2 rfl) ?_
    have hPc := hP.sub (ws' := [(h_mo, .inr (9, [.int mo_thrown, .long mo_steps, .int mo_cells, .int mo_nodes, .int mo_paragraphs, .int mo_waiting, .ref h_mD, .ref h_mV, .ref h_mK, .ref h_mA, .ref h_mB, .ref h_mW, .ref h_mN, .ref h_mQ, .ref h_mR, .ref h_mS, .int mo_at, .int mo_high, .int mo_begun, .int mo_raised, .int mo_next, .int mo_isSpent, .long mo_result, .ref h_mP, .ref h_mO, .ref h_mT, .ref h_mU, .int mo_fails])), (h_mK, .inl (cI, 201, .inl mK))]) [0, 1] rfl
    refine ro_ci (va_runV (As := [.int a2]) (rest := []) ⟨hx, hb, hml, hown, htb⟩ (met_Mo_isStatement l dC dI cI cL cB h_mo h_mD h_mV h_mK h_mA h_mB h_mW h_mN h_mQ h_mR h_mS h_mP h_mO h_mT h_mU mo_thrown mo_steps mo_cells mo_nodes mo_paragraphs mo_waiting mo_at mo_high mo_begun mo_raised mo_next mo_isSpent mo_result mo_fails mK a2 _ hw) (cwV 1 htb (gdV kw_800 kw_802 kw_25 kw_48 kw_803) rfl rfl rfl (by decide +kernel) ⟨Nat.le_of_ble_eq_true rfl, Nat.le_of_ble_eq_true rfl⟩) ⟨fun a U g mk q => by obtain ⟨q0, qP, qK⟩ := q; exact ⟨q0, qP, KK_c qK⟩, va_recv hK.1 hP (ci := 9) (q0 := 0) rfl rfl, fun U hU hW => ⟨rfl, by rw [hU]; exact hPc, KK_w hW hK⟩⟩ rfl rfl hl.1 rfl (lv_room (Nat.le_of_ble_eq_true rfl)) dMo_needs_332 ⟨Nat.zero_le _, Nat.zero_le _⟩) (fun r_332 hw => ?_)
    try dsimp only at hw
    obtain ⟨hbz, hw⟩ := hw
    exact W.zret (v := r_332) hx hb hr (bz_nar hbz) (fun t ht hW => ⟨_, rfl, hw, ht⟩) (fun q h => absurd h List.not_mem_nil) dMo_needs_335
  have hw := hw.2
  by_cases c_1_23 : a1 = 23
  · have hw := hw.1 c_1_23
    refine lv_tableIn (off := 335) (tgt := 336) hx hb dMo_needs_1 (by rw [c_1_23]; decide) (by rw [c_1_23]; decide) (by rw [c_1_23]; rfl) (by decide) ?_
    refine lv_aload_n hx hb dMo_needs_336 rfl (lv_at hl 0 rfl) ?_
    refine lv_iload_n hx hb dMo_needs_337 rfl (lv_at hl 2 rfl) ?_
    have hPc := hP.sub (ws' := [(h_mo, .inr (9, [.int mo_thrown, .long mo_steps, .int mo_cells, .int mo_nodes, .int mo_paragraphs, .int mo_waiting, .ref h_mD, .ref h_mV, .ref h_mK, .ref h_mA, .ref h_mB, .ref h_mW, .ref h_mN, .ref h_mQ, .ref h_mR, .ref h_mS, .int mo_at, .int mo_high, .int mo_begun, .int mo_raised, .int mo_next, .int mo_isSpent, .long mo_result, .ref h_mP, .ref h_mO, .ref h_mT, .ref h_mU, .int mo_fails])), (h_mK, .inl (cI, 201, .inl mK))]) [0, 1] rfl
    refine ro_ci (va_runV (As := [.int a2]) (rest := []) ⟨hx, hb, hml, hown, htb⟩ (met_Mo_isValue l dC dI cI cL cB h_mo h_mD h_mV h_mK h_mA h_mB h_mW h_mN h_mQ h_mR h_mS h_mP h_mO h_mT h_mU mo_thrown mo_steps mo_cells mo_nodes mo_paragraphs mo_waiting mo_at mo_high mo_begun mo_raised mo_next mo_isSpent mo_result mo_fails mK a2 _ hw) (cwV 1 htb (gdV kw_796 kw_798 kw_24 kw_48 kw_799) rfl rfl rfl (by decide +kernel) ⟨Nat.le_of_ble_eq_true rfl, Nat.le_of_ble_eq_true rfl⟩) ⟨fun a U g mk q => by obtain ⟨q0, qP, qK⟩ := q; exact ⟨q0, qP, KK_c qK⟩, va_recv hK.1 hP (ci := 9) (q0 := 0) rfl rfl, fun U hU hW => ⟨rfl, by rw [hU]; exact hPc, KK_w hW hK⟩⟩ rfl rfl hl.1 rfl (lv_room (Nat.le_of_ble_eq_true rfl)) dMo_needs_338 ⟨Nat.zero_le _, Nat.zero_le _⟩) (fun r_338 hw => ?_)
    try dsimp only at hw
    obtain ⟨hbz, hw⟩ := hw
    exact W.zret (v := r_338) hx hb hr (bz_nar hbz) (fun t ht hW => ⟨_, rfl, hw, ht⟩) (fun q h => absurd h List.not_mem_nil) dMo_needs_341
  have hw := hw.2
  by_cases c_1_24 : a1 = 24
  · have hw := hw.1 c_1_24
    refine lv_tableIn (off := 335) (tgt := 336) hx hb dMo_needs_1 (by rw [c_1_24]; decide) (by rw [c_1_24]; decide) (by rw [c_1_24]; rfl) (by decide) ?_
    refine lv_aload_n hx hb dMo_needs_336 rfl (lv_at hl 0 rfl) ?_
    refine lv_iload_n hx hb dMo_needs_337 rfl (lv_at hl 2 rfl) ?_
    have hPc := hP.sub (ws' := [(h_mo, .inr (9, [.int mo_thrown, .long mo_steps, .int mo_cells, .int mo_nodes, .int mo_paragraphs, .int mo_waiting, .ref h_mD, .ref h_mV, .ref h_mK, .ref h_mA, .ref h_mB, .ref h_mW, .ref h_mN, .ref h_mQ, .ref h_mR, .ref h_mS, .int mo_at, .int mo_high, .int mo_begun, .int mo_raised, .int mo_next, .int mo_isSpent, .long mo_result, .ref h_mP, .ref h_mO, .ref h_mT, .ref h_mU, .int mo_fails])), (h_mK, .inl (cI, 201, .inl mK))]) [0, 1] rfl
    refine ro_ci (va_runV (As := [.int a2]) (rest := []) ⟨hx, hb, hml, hown, htb⟩ (met_Mo_isValue l dC dI cI cL cB h_mo h_mD h_mV h_mK h_mA h_mB h_mW h_mN h_mQ h_mR h_mS h_mP h_mO h_mT h_mU mo_thrown mo_steps mo_cells mo_nodes mo_paragraphs mo_waiting mo_at mo_high mo_begun mo_raised mo_next mo_isSpent mo_result mo_fails mK a2 _ hw) (cwV 1 htb (gdV kw_796 kw_798 kw_24 kw_48 kw_799) rfl rfl rfl (by decide +kernel) ⟨Nat.le_of_ble_eq_true rfl, Nat.le_of_ble_eq_true rfl⟩) ⟨fun a U g mk q => by obtain ⟨q0, qP, qK⟩ := q; exact ⟨q0, qP, KK_c qK⟩, va_recv hK.1 hP (ci := 9) (q0 := 0) rfl rfl, fun U hU hW => ⟨rfl, by rw [hU]; exact hPc, KK_w hW hK⟩⟩ rfl rfl hl.1 rfl (lv_room (Nat.le_of_ble_eq_true rfl)) dMo_needs_338 ⟨Nat.zero_le _, Nat.zero_le _⟩) (fun r_338 hw => ?_)
    try dsimp only at hw
    obtain ⟨hbz, hw⟩ := hw
    exact W.zret (v := r_338) hx hb hr (bz_nar hbz) (fun t ht hW => ⟨_, rfl, hw, ht⟩) (fun q h => absurd h List.not_mem_nil) dMo_needs_341
  have hw := hw.2
  by_cases c_1_25 : a1 = 25
  · have hw := hw.1 c_1_25
    refine lv_tableIn (off := 341) (tgt := 342) hx hb dMo_needs_1 (by rw [c_1_25]; decide) (by rw [c_1_25]; decide) (by rw [c_1_25]; rfl) (by decide) ?_
    refine lv_iload_n hx hb dMo_needs_342 rfl (lv_at hl 2 rfl) ?_
    refine lv_if_eq (tgt := 354) hx hb dMo_needs_343 (by decide) (fun c_343 => ?_) (fun c_343 => ?_)
    · have hw := hw.1 c_343
      refine lv_iload_n hx hb dMo_needs_354 rfl (lv_at hl 3 rfl) ?_
      refine lv_if_eq (tgt := 366) hx hb dMo_needs_355 (by decide) (fun c_355 => ?_) (fun c_355 => ?_)
      · have hw := hw.1 c_355
        refine lv_iconst (v := 1) hx hb dMo_needs_366 (by decide) ?_
        refine lv_goto (tgt := 371) hx hb dMo_needs_367 (by decide) ?_
        exact W.zret (v := 1) hx hb hr (by decide) (fun t ht hW => ⟨_, rfl, hw, ht⟩) (fun q h => absurd h List.not_mem_nil) dMo_needs_371
      · have hw := hw.2 c_355
        refine lv_aload_n hx hb dMo_needs_358 rfl (lv_at hl 0 rfl) ?_
        refine lv_iload_n hx hb dMo_needs_359 rfl (lv_at hl 3 rfl) ?_
        have hPc := hP.sub (ws' := [(h_mo, .inr (9, [.int mo_thrown, .long mo_steps, .int mo_cells, .int mo_nodes, .int mo_paragraphs, .int mo_waiting, .ref h_mD, .ref h_mV, .ref h_mK, .ref h_mA, .ref h_mB, .ref h_mW, .ref h_mN, .ref h_mQ, .ref h_mR, .ref h_mS, .int mo_at, .int mo_high, .int mo_begun, .int mo_raised, .int mo_next, .int mo_isSpent, .long mo_result, .ref h_mP, .ref h_mO, .ref h_mT, .ref h_mU, .int mo_fails])), (h_mK, .inl (cI, 201, .inl mK))]) [0, 1] rfl
        refine ro_ci (va_runV (As := [.int a3]) (rest := []) ⟨hx, hb, hml, hown, htb⟩ (met_Mo_isStatement l dC dI cI cL cB h_mo h_mD h_mV h_mK h_mA h_mB h_mW h_mN h_mQ h_mR h_mS h_mP h_mO h_mT h_mU mo_thrown mo_steps mo_cells mo_nodes mo_paragraphs mo_waiting mo_at mo_high mo_begun mo_raised mo_next mo_isSpent mo_result mo_fails mK a3 _ hw) (cwV 1 htb (gdV kw_800 kw_802 kw_25 kw_48 kw_803) rfl rfl rfl (by decide +kernel) ⟨Nat.le_of_ble_eq_true rfl, Nat.le_of_ble_eq_true rfl⟩) ⟨fun a U g mk q => by obtain ⟨q0, qP, qK⟩ := q; exact ⟨q0, qP, KK_c qK⟩, va_recv hK.1 hP (ci := 9) (q0 := 0) rfl rfl, fun U hU hW => ⟨rfl, by rw [hU]; exact hPc, KK_w hW hK⟩⟩ rfl rfl hl.1 rfl (lv_room (Nat.le_of_ble_eq_true rfl)) dMo_needs_360 ⟨Nat.zero_le _, Nat.zero_le _⟩) (fun r_360 hw => ?_)
        try dsimp only at hw
        refine lv_if_eq (tgt := 370) hx hb dMo_needs_363 (by decide) (fun c_363 => ?_) (fun c_363 => ?_)
        · have hw := hw.1 c_363
          refine lv_iconst (v := 0) hx hb dMo_needs_370 (by decide) ?_
          exact W.zret (v := 0) hx hb hr (by decide) (fun t ht hW => ⟨_, rfl, hw, ht⟩) (fun q h => absurd h List.not_mem_nil) dMo_needs_371
        · have hw := hw.2 c_363
          refine lv_iconst (v := 1) hx hb dMo_needs_366 (by decide) ?_
          refine lv_goto (tgt := 371) hx hb dMo_needs_367 (by decide) ?_
          exact W.zret (v := 1) hx hb hr (by decide) (fun t ht hW => ⟨_, rfl, hw, ht⟩) (fun q h => absurd h List.not_mem_nil) dMo_needs_371
    · have hw := hw.2 c_343
      refine lv_aload_n hx hb dMo_needs_346 rfl (lv_at hl 0 rfl) ?_
      refine lv_iload_n hx hb dMo_needs_347 rfl (lv_at hl 2 rfl) ?_
      have hPc := hP.sub (ws' := [(h_mo, .inr (9, [.int mo_thrown, .long mo_steps, .int mo_cells, .int mo_nodes, .int mo_paragraphs, .int mo_waiting, .ref h_mD, .ref h_mV, .ref h_mK, .ref h_mA, .ref h_mB, .ref h_mW, .ref h_mN, .ref h_mQ, .ref h_mR, .ref h_mS, .int mo_at, .int mo_high, .int mo_begun, .int mo_raised, .int mo_next, .int mo_isSpent, .long mo_result, .ref h_mP, .ref h_mO, .ref h_mT, .ref h_mU, .int mo_fails])), (h_mK, .inl (cI, 201, .inl mK))]) [0, 1] rfl
      refine ro_ci (va_runV (As := [.int a2]) (rest := []) ⟨hx, hb, hml, hown, htb⟩ (met_Mo_isStatement l dC dI cI cL cB h_mo h_mD h_mV h_mK h_mA h_mB h_mW h_mN h_mQ h_mR h_mS h_mP h_mO h_mT h_mU mo_thrown mo_steps mo_cells mo_nodes mo_paragraphs mo_waiting mo_at mo_high mo_begun mo_raised mo_next mo_isSpent mo_result mo_fails mK a2 _ hw) (cwV 1 htb (gdV kw_800 kw_802 kw_25 kw_48 kw_803) rfl rfl rfl (by decide +kernel) ⟨Nat.le_of_ble_eq_true rfl, Nat.le_of_ble_eq_true rfl⟩) ⟨fun a U g mk q => by obtain ⟨q0, qP, qK⟩ := q; exact ⟨q0, qP, KK_c qK⟩, va_recv hK.1 hP (ci := 9) (q0 := 0) rfl rfl, fun U hU hW => ⟨rfl, by rw [hU]; exact hPc, KK_w hW hK⟩⟩ rfl rfl hl.1 rfl (lv_room (Nat.le_of_ble_eq_true rfl)) dMo_needs_348 ⟨Nat.zero_le _, Nat.zero_le _⟩) (fun r_348 hw => ?_)
      try dsimp only at hw
      refine lv_if_eq (tgt := 370) hx hb dMo_needs_351 (by decide) (fun c_351 => ?_) (fun c_351 => ?_)
      · have hw := hw.1 c_351
        refine lv_iconst (v := 0) hx hb dMo_needs_370 (by decide) ?_
        exact W.zret (v := 0) hx hb hr (by decide) (fun t ht hW => ⟨_, rfl, hw, ht⟩) (fun q h => absurd h List.not_mem_nil) dMo_needs_371
      · have hw := hw.2 c_351
        refine lv_iload_n hx hb dMo_needs_354 rfl (lv_at hl 3 rfl) ?_
        refine lv_if_eq (tgt := 366) hx hb dMo_needs_355 (by decide) (fun c_355 => ?_) (fun c_355 => ?_)
        · have hw := hw.1 c_355
          refine lv_iconst (v := 1) hx hb dMo_needs_366 (by decide) ?_
          refine lv_goto (tgt := 371) hx hb dMo_needs_367 (by decide) ?_
          exact W.zret (v := 1) hx hb hr (by decide) (fun t ht hW => ⟨_, rfl, hw, ht⟩) (fun q h => absurd h List.not_mem_nil) dMo_needs_371
        · have hw := hw.2 c_355
          refine lv_aload_n hx hb dMo_needs_358 rfl (lv_at hl 0 rfl) ?_
          refine lv_iload_n hx hb dMo_needs_359 rfl (lv_at hl 3 rfl) ?_
          have hPc := hP.sub (ws' := [(h_mo, .inr (9, [.int mo_thrown, .long mo_steps, .int mo_cells, .int mo_nodes, .int mo_paragraphs, .int mo_waiting, .ref h_mD, .ref h_mV, .ref h_mK, .ref h_mA, .ref h_mB, .ref h_mW, .ref h_mN, .ref h_mQ, .ref h_mR, .ref h_mS, .int mo_at, .int mo_high, .int mo_begun, .int mo_raised, .int mo_next, .int mo_isSpent, .long mo_result, .ref h_mP, .ref h_mO, .ref h_mT, .ref h_mU, .int mo_fails])), (h_mK, .inl (cI, 201, .inl mK))]) [0, 1] rfl
          refine ro_ci (va_runV (As := [.int a3]) (rest := []) ⟨hx, hb, hml, hown, htb⟩ (met_Mo_isStatement l dC dI cI cL cB h_mo h_mD h_mV h_mK h_mA h_mB h_mW h_mN h_mQ h_mR h_mS h_mP h_mO h_mT h_mU mo_thrown mo_steps mo_cells mo_nodes mo_paragraphs mo_waiting mo_at mo_high mo_begun mo_raised mo_next mo_isSpent mo_result mo_fails mK a3 _ hw) (cwV 1 htb (gdV kw_800 kw_802 kw_25 kw_48 kw_803) rfl rfl rfl (by decide +kernel) ⟨Nat.le_of_ble_eq_true rfl, Nat.le_of_ble_eq_true rfl⟩) ⟨fun a U g mk q => by obtain ⟨q0, qP, qK⟩ := q; exact ⟨q0, qP, KK_c qK⟩, va_recv hK.1 hP (ci := 9) (q0 := 0) rfl rfl, fun U hU hW => ⟨rfl, by rw [hU]; exact hPc, KK_w hW hK⟩⟩ rfl rfl hl.1 rfl (lv_room (Nat.le_of_ble_eq_true rfl)) dMo_needs_360 ⟨Nat.zero_le _, Nat.zero_le _⟩) (fun r_360 hw => ?_)
          try dsimp only at hw
          refine lv_if_eq (tgt := 370) hx hb dMo_needs_363 (by decide) (fun c_363 => ?_) (fun c_363 => ?_)
          · have hw := hw.1 c_363
            refine lv_iconst (v := 0) hx hb dMo_needs_370 (by decide) ?_
            exact W.zret (v := 0) hx hb hr (by decide) (fun t ht hW => ⟨_, rfl, hw, ht⟩) (fun q h => absurd h List.not_mem_nil) dMo_needs_371
          · have hw := hw.2 c_363
            refine lv_iconst (v := 1) hx hb dMo_needs_366 (by decide) ?_
            refine lv_goto (tgt := 371) hx hb dMo_needs_367 (by decide) ?_
            exact W.zret (v := 1) hx hb hr (by decide) (fun t ht hW => ⟨_, rfl, hw, ht⟩) (fun q h => absurd h List.not_mem_nil) dMo_needs_371
  have hw := hw.2
  have hw := hw ⟨c_1_1, c_1_2, c_1_3, c_1_4, c_1_5, c_1_6, c_1_7, c_1_8, c_1_9, c_1_10, c_1_11, c_1_12, c_1_13, c_1_14, c_1_15, c_1_16, c_1_18, c_1_22, c_1_23, c_1_24, c_1_25⟩
  refine lv_tabD (tgt := 372) hx hb dMo_needs_1 (by have n_1 := lv_neT c_1_1 (show (1 : Int32).toInt = 1 by decide +kernel); have n_2 := lv_neT c_1_2 (show (2 : Int32).toInt = 2 by decide +kernel); have n_3 := lv_neT c_1_3 (show (3 : Int32).toInt = 3 by decide +kernel); have n_4 := lv_neT c_1_4 (show (4 : Int32).toInt = 4 by decide +kernel); have n_5 := lv_neT c_1_5 (show (5 : Int32).toInt = 5 by decide +kernel); have n_6 := lv_neT c_1_6 (show (6 : Int32).toInt = 6 by decide +kernel); have n_7 := lv_neT c_1_7 (show (7 : Int32).toInt = 7 by decide +kernel); have n_8 := lv_neT c_1_8 (show (8 : Int32).toInt = 8 by decide +kernel); have n_9 := lv_neT c_1_9 (show (9 : Int32).toInt = 9 by decide +kernel); have n_10 := lv_neT c_1_10 (show (10 : Int32).toInt = 10 by decide +kernel); have n_11 := lv_neT c_1_11 (show (11 : Int32).toInt = 11 by decide +kernel); have n_12 := lv_neT c_1_12 (show (12 : Int32).toInt = 12 by decide +kernel); have n_13 := lv_neT c_1_13 (show (13 : Int32).toInt = 13 by decide +kernel); have n_14 := lv_neT c_1_14 (show (14 : Int32).toInt = 14 by decide +kernel); have n_15 := lv_neT c_1_15 (show (15 : Int32).toInt = 15 by decide +kernel); have n_16 := lv_neT c_1_16 (show (16 : Int32).toInt = 16 by decide +kernel); have n_18 := lv_neT c_1_18 (show (18 : Int32).toInt = 18 by decide +kernel); have n_22 := lv_neT c_1_22 (show (22 : Int32).toInt = 22 by decide +kernel); have n_23 := lv_neT c_1_23 (show (23 : Int32).toInt = 23 by decide +kernel); have n_24 := lv_neT c_1_24 (show (24 : Int32).toInt = 24 by decide +kernel); have n_25 := lv_neT c_1_25 (show (25 : Int32).toInt = 25 by decide +kernel); rcases (show a1.toInt < 1 ∨ 25 < a1.toInt ∨ a1.toInt = 17 ∨ a1.toInt = 19 ∨ a1.toInt = 20 ∨ a1.toInt = 21 by omega) with hc | hc | hc | hc | hc | hc <;> first | exact Or.inl hc | exact Or.inr (Or.inl hc) | (refine Or.inr (Or.inr ?_); rw [hc]; rfl)) (by decide) ?_
  refine lv_iconst (v := 1) hx hb dMo_needs_372 (by decide) ?_
  exact W.zret (v := 1) hx hb hr (by decide) (fun t ht hW => ⟨_, rfl, hw, ht⟩) (fun q h => absurd h List.not_mem_nil) dMo_needs_373
