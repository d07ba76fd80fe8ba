def cl0 (L : Nat) (xs : Nat → Int32) : Int32 := if L = 0 then 0 else xs 0
set_option maxHeartbeats 4000000 in
set_option maxRecDepth 100000 in
theorem met_Lw_cell (l : Launch) (b L : Nat) (xs : Nat → Int32) (hL : L ≤ 2049) : Met l yLw_cell wsLw_cell ({ frames := 0, cells := 0, slots := 0, locals := 0 } : Room) (va_Pc [.ref b, .int 0] (fun U => va_X b L xs U U.heap)) (ro_i (fun r => r = cl0 L xs)) 0 0 (fun _ => False) := by
  refine Met.ofW (cc := cLw_cell) (maxL := 2) (ret := some .int) (by decide) rfl ?_
  intro p e s m args below meth c s₁ B hml hv
  obtain ⟨rfl, hX⟩ := hv
  have hx := B.exec
  have hb := B.bytes
  have hr := B.returns
  have hlocks := B.notSynchronized
  have hbl : b < s.heap.size := by
    obtain ⟨scr, h1, -⟩ := hX
    exact (Array.getElem?_eq_some_iff.mp h1).1
  have hS : va_S (fun _ => False) s.heap s.heap [] := va_S.rf
  have hl := lv_entry ([.ref b, .int 0]) (n := 2) (Nat.le_of_ble_eq_true rfl)
  rw [lg_entry_eq]
  generalize (lg_sl ([.ref b, .int 0]) ++ List.replicate (2 - (lg_sl ([.ref b, .int 0])).length) Slot.unset).toArray = ls at hl ⊢
  have hl : lv_has ls 2 [(0, .ref b), (1, .int 0)] := hl
  refine lv_iload_n hx hb dLw_cell_0 rfl (lv_at hl 1 rfl) ?_
  refine lv_aload_n hx hb dLw_cell_1 rfl (lv_at hl 0 rfl) ?_
  refine va_slen hx hb hX hbl id hS dLw_cell_2 ?_
  have e0 : (Int32.ofNat L ≤ 0) ↔ L = 0 := by
    show (nI L ≤ 0) ↔ L = 0
    rw [← nI_0, i_le, i_nat (by omega), i_nat (by omega)]
    omega
  refine lv_icmp_ge (tgt := 12) hx hb dLw_cell_3 (by decide) (fun c3 => ?_) (fun c3 => ?_)
  · refine lv_iconst (v := 0) hx hb dLw_cell_12 (by decide) ?_
    exact W.iret (v := 0) hx hb hr (fun t ht hW => ⟨_, rfl, by rw [cl0, if_pos (e0.mp c3)], ht⟩) (fun q h => absurd h List.not_mem_nil) dLw_cell_13
  · have hne : ¬ L = 0 := fun q => c3 (e0.mpr q)
    refine lv_aload_n hx hb dLw_cell_6 rfl (lv_at hl 0 rfl) ?_
    refine lv_iload_n hx hb dLw_cell_7 rfl (lv_at hl 1 rfl) ?_
    refine va_sld hx hb hX hbl id hS (i := 0) (show vp_in 0 L by have h := vp_in_nI (n := 0) (N := L) (by omega) (by omega); rw [nI_0] at h; exact h) dLw_cell_8 ?_
    refine lv_goto (tgt := 13) hx hb dLw_cell_9 (by decide) ?_
    exact W.iret (v := xs 0) hx hb hr (fun t ht hW => ⟨_, rfl, by rw [cl0, if_neg hne], ht⟩) (fun q h => absurd h List.not_mem_nil) dLw_cell_13
