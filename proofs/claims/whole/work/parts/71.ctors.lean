theorem kwa_I : Cond.arrayClass .int ∈ TB := tb_of (i := 95) (by decide +kernel) rfl
theorem kwa_J : Cond.arrayClass .long ∈ TB := tb_of (i := 147) (by decide +kernel) rfl
theorem kwa_B : Cond.arrayClass .byte ∈ TB := tb_of (i := 126) (by decide +kernel) rfl
theorem ra_I {dC : Nat → ClassId} {dI : Nat → Nat → Nat} {cI cL cB cA : ClassId} {s : State} (hK : KK dC dI cI cL cB s) (h : va_K (dC, dI) vwCl ([(cI, .int), (cL, .long), (cB, .byte)] ++ [(cA, .int)]) s) : cI = cA := Option.some.inj ((va_nm_int (hK.1.2 0 _ rfl).2).symm.trans (va_nm_int (h.2 3 _ rfl).2))
theorem ra_J {dC : Nat → ClassId} {dI : Nat → Nat → Nat} {cI cL cB cA : ClassId} {s : State} (hK : KK dC dI cI cL cB s) (h : va_K (dC, dI) vwCl ([(cI, .int), (cL, .long), (cB, .byte)] ++ [(cA, .long)]) s) : cL = cA := Option.some.inj ((va_nm_long (hK.1.2 1 _ rfl).2).symm.trans (va_nm_long (h.2 3 _ rfl).2))
theorem ra_B {dC : Nat → ClassId} {dI : Nat → Nat → Nat} {cI cL cB cA : ClassId} {s : State} (hK : KK dC dI cI cL cB s) (h : va_K (dC, dI) vwCl ([(cI, .int), (cL, .long), (cB, .byte)] ++ [(cA, .byte)]) s) : cB = cA := Option.some.inj ((va_nm_byte (hK.1.2 2 _ rfl).2).symm.trans (va_nm_byte (h.2 3 _ rfl).2))
set_option maxHeartbeats 4000000 in
set_option maxRecDepth 100000 in
theorem met_Nd_init (l : Launch) (dC : Nat → ClassId) (dI : Nat → Nat → Nat) (cI cL cB : ClassId) (sz : Nat) (h0 : Nat) : Met l yNd_init wsNd_init ({ frames := 1, cells := 4, slots := 804, locals := 20 } : Room) (va_Pc [.ref h0] (fun U => U.heap.size = sz ∧ va_P (dC, dI) vwCl [(h0, .inr (3, [.null, .null, .null, .null, .int 0]))] U.heap ∧ KK dC dI cI cL cB U ∧ va_D (fun _ => True) [(h0, .inr (3, [.null, .null, .null, .null, .int 0]))])) (va_Qv (fun (_ : Nat × Nat × Nat × Nat) => True) (fun (u : Nat × Nat × Nat × Nat) t => va_P (dC, dI) vwCl [(h0, .inr (3, [.ref u.1, .ref u.2.1, .ref u.2.2.1, .ref u.2.2.2, .int 0])), (u.1, .inl (cI, 201, .inl (fun _ => 0))), (u.2.1, .inl (cI, 201, .inl (fun _ => 0))), (u.2.2.1, .inl (cI, 201, .inl (fun _ => 0))), (u.2.2.2, .inl (cI, 201, .inl (fun _ => 0)))] t.heap ∧ va_D (va_A [(h0, .inr (3, [.null, .null, .null, .null, .int 0]))] sz) [(h0, .inr (3, [.ref u.1, .ref u.2.1, .ref u.2.2.1, .ref u.2.2.2, .int 0])), (u.1, .inl (cI, 201, .inl (fun _ => 0))), (u.2.1, .inl (cI, 201, .inl (fun _ => 0))), (u.2.2.1, .inl (cI, 201, .inl (fun _ => 0))), (u.2.2.2, .inl (cI, 201, .inl (fun _ => 0)))]) (va_A [(h0, .inr (3, [.null, .null, .null, .null, .int 0]))] sz)) 4 804 (va_A [(h0, .inr (3, [.null, .null, .null, .null, .int 0]))] sz) := by
  refine Met.ofW (cc := cNd_init) (maxL := 1) (ret := none) (by decide) rfl ?_
  intro p e s m args below meth c s₁ B hml hv
  obtain ⟨rfl, hsz, hP, hK, hD0⟩ := hv
  have hx := B.exec
  have hb := B.bytes
  have hr := B.returns
  have hts := atoms_spec (ws := wsNd_init) B.pre
  have hown : s.vm.findClass RNd = some m.cls := findClass_of_methodNamed B.named
  have hlocks := B.notSynchronized
  have hin : meth.name = "<init>" := (name_of_methodNamed B.named B.method).1
  subst hsz
  have hD := hD0.self (sz := s.heap.size)
  generalize hAe : va_A [(h0, .inr (3, [.null, .null, .null, .null, .int 0]))] s.heap.size = A at hD ⊢
  have hA : ∀ q : Nat, s.heap.size ≤ q → A q := fun q h => by rw [← hAe]; exact Or.inr h
  have hS : va_S A s.heap s.heap [] := va_S.rf
  have hP : va_P (dC, dI) vwCl [(h0, .inr (3, [.null, .null, .null, .null, .int 0]))] s.heap := hP
  have htb : ∀ w ∈ TB, w.before _ s = true := fun w h => hts w (List.mem_cons_of_mem _ h)
  have hf_9 := htb _ kw_78
  have hf_15 := htb _ kw_79
  have hf_18 := htb _ kw_80
  have hf_21 := htb _ kw_81
  have hl := lv_entry ([.ref h0]) (n := 1) (Nat.le_of_ble_eq_true rfl)
  rw [lg_entry_eq]
  generalize (lg_sl ([.ref h0]) ++ List.replicate (1 - (lg_sl ([.ref h0])).length) Slot.unset).toArray = ls at hl ⊢
  have hl : lv_has ls 1 [(0, .ref h0)] := hl
  refine lv_aload_n hx hb dNd_init_0 rfl (lv_at hl 0 rfl) ?_
  refine W.objInit hx hb hown (htb _ kw_77) (htb _ kw_60) (htb _ kw_61) rfl (by rw [hml]; exact hl.1) rfl dNd_init_1 (Nat.le_of_ble_eq_true rfl) (Nat.le_of_ble_eq_true rfl) ?_
  refine W.eq (g2 := F0 m 4 ls []) rfl ?_
  refine lv_aload_n hx hb dNd_init_4 rfl (lv_at hl 0 rfl) ?_
  refine lv_sipush (v := 201) hx hb dNd_init_5 (by decide +kernel) ?_
  refine va_newa (atype := .int) (ty := .int) (a0 := (201, .inl (fun _ => 0))) hx hb (htb _ kwa_I) rfl hK.1 hP hD hS hA (fun _ => rfl) (by decide) (show (201 : Int32).toNatClampNeg = 201 by decide +kernel) (by decide) (show 0 + 1 ≤ 4 from Nat.le_of_ble_eq_true rfl) (show 0 + 201 ≤ 804 from Nat.le_of_ble_eq_true rfl) dNd_init_8 (fun q8 cA H hK1 hP hD hS => ?_)
  obtain rfl := ra_I hK hK1
  have hP : va_P (dC, dI) vwCl [(h0, .inr (3, [.null, .null, .null, .null, .int 0])), (q8, .inl (cI, 201, .inl (fun _ => 0)))] H := hP
  have hD : va_D A [(h0, .inr (3, [.null, .null, .null, .null, .int 0])), (q8, .inl (cI, 201, .inl (fun _ => 0)))] := hD
  refine W.cs (cells' := 1) (slots' := 201) (by rfl) (by rfl) ?_
  refine va_putF (D := (dC, dI)) (ci := 3) (v := .ref q8) (ty := .array .int) (C := RNd) (T := TNd) (N := 5) hx hb htb in_Nd tyNd tyNd_ok nmNd hown hK.1 hP hD hS 0 rfl rfl 0 (by decide) hf_9 (fun _ h9 => h9) rfl hin rfl (by decide +kernel) rfl rfl (Nat.le_of_ble_eq_true rfl) dNd_init_10 (fun H locs hP hD hS => ?_)
  have hP : va_P (dC, dI) vwCl [(h0, .inr (3, [.ref q8, .null, .null, .null, .int 0])), (q8, .inl (cI, 201, .inl (fun _ => 0)))] H := hP
  have hD : va_D A [(h0, .inr (3, [.ref q8, .null, .null, .null, .int 0])), (q8, .inl (cI, 201, .inl (fun _ => 0)))] := hD
  refine lv_aload_n hx hb dNd_init_13 rfl (lv_at hl 0 rfl) ?_
  refine lv_sipush (v := 201) hx hb dNd_init_14 (by decide +kernel) ?_
  refine va_newa (atype := .int) (ty := .int) (a0 := (201, .inl (fun _ => 0))) hx hb (htb _ kwa_I) rfl hK.1 hP hD hS hA (fun _ => rfl) (by decide) (show (201 : Int32).toNatClampNeg = 201 by decide +kernel) (by decide) (show 1 + 1 ≤ 4 from Nat.le_of_ble_eq_true rfl) (show 201 + 201 ≤ 804 from Nat.le_of_ble_eq_true rfl) dNd_init_17 (fun q17 cA H hK1 hP hD hS => ?_)
  obtain rfl := ra_I hK hK1
  have hP : va_P (dC, dI) vwCl [(h0, .inr (3, [.ref q8, .null, .null, .null, .int 0])), (q8, .inl (cI, 201, .inl (fun _ => 0))), (q17, .inl (cI, 201, .inl (fun _ => 0)))] H := hP
  have hD : va_D A [(h0, .inr (3, [.ref q8, .null, .null, .null, .int 0])), (q8, .inl (cI, 201, .inl (fun _ => 0))), (q17, .inl (cI, 201, .inl (fun _ => 0)))] := hD
  refine W.cs (cells' := 2) (slots' := 402) (by rfl) (by rfl) ?_
  refine va_putF (D := (dC, dI)) (ci := 3) (v := .ref q17) (ty := .array .int) (C := RNd) (T := TNd) (N := 5) hx hb htb in_Nd tyNd tyNd_ok nmNd hown hK.1 hP hD hS 0 rfl rfl 1 (by decide) hf_15 (fun _ h9 => h9) rfl hin rfl (by decide +kernel) rfl rfl (Nat.le_of_ble_eq_true rfl) dNd_init_19 (fun H locs hP hD hS => ?_)
  have hP : va_P (dC, dI) vwCl [(h0, .inr (3, [.ref q8, .ref q17, .null, .null, .int 0])), (q8, .inl (cI, 201, .inl (fun _ => 0))), (q17, .inl (cI, 201, .inl (fun _ => 0)))] H := hP
  have hD : va_D A [(h0, .inr (3, [.ref q8, .ref q17, .null, .null, .int 0])), (q8, .inl (cI, 201, .inl (fun _ => 0))), (q17, .inl (cI, 201, .inl (fun _ => 0)))] := hD
  refine lv_aload_n hx hb dNd_init_22 rfl (lv_at hl 0 rfl) ?_
  refine lv_sipush (v := 201) hx hb dNd_init_23 (by decide +kernel) ?_
  refine va_newa (atype := .int) (ty := .int) (a0 := (201, .inl (fun _ => 0))) hx hb (htb _ kwa_I) rfl hK.1 hP hD hS hA (fun _ => rfl) (by decide) (show (201 : Int32).toNatClampNeg = 201 by decide +kernel) (by decide) (show 2 + 1 ≤ 4 from Nat.le_of_ble_eq_true rfl) (show 402 + 201 ≤ 804 from Nat.le_of_ble_eq_true rfl) dNd_init_26 (fun q26 cA H hK1 hP hD hS => ?_)
  obtain rfl := ra_I hK hK1
  have hP : va_P (dC, dI) vwCl [(h0, .inr (3, [.ref q8, .ref q17, .null, .null, .int 0])), (q8, .inl (cI, 201, .inl (fun _ => 0))), (q17, .inl (cI, 201, .inl (fun _ => 0))), (q26, .inl (cI, 201, .inl (fun _ => 0)))] H := hP
  have hD : va_D A [(h0, .inr (3, [.ref q8, .ref q17, .null, .null, .int 0])), (q8, .inl (cI, 201, .inl (fun _ => 0))), (q17, .inl (cI, 201, .inl (fun _ => 0))), (q26, .inl (cI, 201, .inl (fun _ => 0)))] := hD
  refine W.cs (cells' := 3) (slots' := 603) (by rfl) (by rfl) ?_
  refine va_putF (D := (dC, dI)) (ci := 3) (v := .ref q26) (ty := .array .int) (C := RNd) (T := TNd) (N := 5) hx hb htb in_Nd tyNd tyNd_ok nmNd hown hK.1 hP hD hS 0 rfl rfl 2 (by decide) hf_18 (fun _ h9 => h9) rfl hin rfl (by decide +kernel) rfl rfl (Nat.le_of_ble_eq_true rfl) dNd_init_28 (fun H locs hP hD hS => ?_)
  have hP : va_P (dC, dI) vwCl [(h0, .inr (3, [.ref q8, .ref q17, .ref q26, .null, .int 0])), (q8, .inl (cI, 201, .inl (fun _ => 0))), (q17, .inl (cI, 201, .inl (fun _ => 0))), (q26, .inl (cI, 201, .inl (fun _ => 0)))] H := hP
  have hD : va_D A [(h0, .inr (3, [.ref q8, .ref q17, .ref q26, .null, .int 0])), (q8, .inl (cI, 201, .inl (fun _ => 0))), (q17, .inl (cI, 201, .inl (fun _ => 0))), (q26, .inl (cI, 201, .inl (fun _ => 0)))] := hD
  refine lv_aload_n hx hb dNd_init_31 rfl (lv_at hl 0 rfl) ?_
  refine lv_sipush (v := 201) hx hb dNd_init_32 (by decide +kernel) ?_
  refine va_newa (atype := .int) (ty := .int) (a0 := (201, .inl (fun _ => 0))) hx hb (htb _ kwa_I) rfl hK.1 hP hD hS hA (fun _ => rfl) (by decide) (show (201 : Int32).toNatClampNeg = 201 by decide +kernel) (by decide) (show 3 + 1 ≤ 4 from Nat.le_of_ble_eq_true rfl) (show 603 + 201 ≤ 804 from Nat.le_of_ble_eq_true rfl) dNd_init_35 (fun q35 cA H hK1 hP hD hS => ?_)
  obtain rfl := ra_I hK hK1
  have hP : va_P (dC, dI) vwCl [(h0, .inr (3, [.ref q8, .ref q17, .ref q26, .null, .int 0])), (q8, .inl (cI, 201, .inl (fun _ => 0))), (q17, .inl (cI, 201, .inl (fun _ => 0))), (q26, .inl (cI, 201, .inl (fun _ => 0))), (q35, .inl (cI, 201, .inl (fun _ => 0)))] H := hP
  have hD : va_D A [(h0, .inr (3, [.ref q8, .ref q17, .ref q26, .null, .int 0])), (q8, .inl (cI, 201, .inl (fun _ => 0))), (q17, .inl (cI, 201, .inl (fun _ => 0))), (q26, .inl (cI, 201, .inl (fun _ => 0))), (q35, .inl (cI, 201, .inl (fun _ => 0)))] := hD
  refine W.cs (cells' := 4) (slots' := 804) (by rfl) (by rfl) ?_
  refine va_putF (D := (dC, dI)) (ci := 3) (v := .ref q35) (ty := .array .int) (C := RNd) (T := TNd) (N := 5) hx hb htb in_Nd tyNd tyNd_ok nmNd hown hK.1 hP hD hS 0 rfl rfl 3 (by decide) hf_21 (fun _ h9 => h9) rfl hin rfl (by decide +kernel) rfl rfl (Nat.le_of_ble_eq_true rfl) dNd_init_37 (fun H locs hP hD hS => ?_)
  have hP : va_P (dC, dI) vwCl [(h0, .inr (3, [.ref q8, .ref q17, .ref q26, .ref q35, .int 0])), (q8, .inl (cI, 201, .inl (fun _ => 0))), (q17, .inl (cI, 201, .inl (fun _ => 0))), (q26, .inl (cI, 201, .inl (fun _ => 0))), (q35, .inl (cI, 201, .inl (fun _ => 0)))] H := hP
  have hD : va_D A [(h0, .inr (3, [.ref q8, .ref q17, .ref q26, .ref q35, .int 0])), (q8, .inl (cI, 201, .inl (fun _ => 0))), (q17, .inl (cI, 201, .inl (fun _ => 0))), (q26, .inl (cI, 201, .inl (fun _ => 0))), (q35, .inl (cI, 201, .inl (fun _ => 0)))] := hD
  have hP9 := hP.sub (ws' := [(h0, .inr (3, [.ref q8, .ref q17, .ref q26, .ref q35, .int 0])), (q8, .inl (cI, 201, .inl (fun _ => 0))), (q17, .inl (cI, 201, .inl (fun _ => 0))), (q26, .inl (cI, 201, .inl (fun _ => 0))), (q35, .inl (cI, 201, .inl (fun _ => 0)))]) [0, 1, 2, 3, 4] rfl
  have hD9 := hD.sub (ws' := [(h0, .inr (3, [.ref q8, .ref q17, .ref q26, .ref q35, .int 0])), (q8, .inl (cI, 201, .inl (fun _ => 0))), (q17, .inl (cI, 201, .inl (fun _ => 0))), (q26, .inl (cI, 201, .inl (fun _ => 0))), (q35, .inl (cI, 201, .inl (fun _ => 0)))]) [0, 1, 2, 3, 4] (by decide) rfl
  exact W.vret hx hb hr (fun t ht hW => ⟨⟨(q8, q17, q26, q35), rfl, trivial, by rw [ht]; exact hP9, hD9⟩, hS.F ht⟩) hS.2.2 dNd_init_40
set_option maxHeartbeats 4000000 in
set_option maxRecDepth 100000 in
theorem met_Pg_init (l : Launch) (dC : Nat → ClassId) (dI : Nat → Nat → Nat) (cI cL cB : ClassId) (sz : Nat) (h0 : Nat) : Met l yPg_init wsPg_init ({ frames := 1, cells := 2, slots := 62, locals := 20 } : Room) (va_Pc [.ref h0] (fun U => U.heap.size = sz ∧ va_P (dC, dI) vwCl [(h0, .inr (4, [.null, .null, .int 0]))] U.heap ∧ KK dC dI cI cL cB U ∧ va_D (fun _ => True) [(h0, .inr (4, [.null, .null, .int 0]))])) (va_Qv (fun (_ : Nat × Nat) => True) (fun (u : Nat × Nat) t => va_P (dC, dI) vwCl [(h0, .inr (4, [.ref u.1, .ref u.2, .int 0])), (u.1, .inl (cI, 31, .inl (fun _ => 0))), (u.2, .inl (cI, 31, .inl (fun _ => 0)))] t.heap ∧ va_D (va_A [(h0, .inr (4, [.null, .null, .int 0]))] sz) [(h0, .inr (4, [.ref u.1, .ref u.2, .int 0])), (u.1, .inl (cI, 31, .inl (fun _ => 0))), (u.2, .inl (cI, 31, .inl (fun _ => 0)))]) (va_A [(h0, .inr (4, [.null, .null, .int 0]))] sz)) 2 62 (va_A [(h0, .inr (4, [.null, .null, .int 0]))] sz) := by
  refine Met.ofW (cc := cPg_init) (maxL := 1) (ret := none) (by decide) rfl ?_
  intro p e s m args below meth c s₁ B hml hv
  obtain ⟨rfl, hsz, hP, hK, hD0⟩ := hv
  have hx := B.exec
  have hb := B.bytes
  have hr := B.returns
  have hts := atoms_spec (ws := wsPg_init) B.pre
  have hown : s.vm.findClass RPg = some m.cls := findClass_of_methodNamed B.named
  have hlocks := B.notSynchronized
  have hin : meth.name = "<init>" := (name_of_methodNamed B.named B.method).1
  subst hsz
  have hD := hD0.self (sz := s.heap.size)
  generalize hAe : va_A [(h0, .inr (4, [.null, .null, .int 0]))] s.heap.size = A at hD ⊢
  have hA : ∀ q : Nat, s.heap.size ≤ q → A q := fun q h => by rw [← hAe]; exact Or.inr h
  have hS : va_S A s.heap s.heap [] := va_S.rf
  have hP : va_P (dC, dI) vwCl [(h0, .inr (4, [.null, .null, .int 0]))] s.heap := hP
  have htb : ∀ w ∈ TB, w.before _ s = true := fun w h => hts w (List.mem_cons_of_mem _ h)
  have hf_9 := htb _ kw_102
  have hf_15 := htb _ kw_103
  have hl := lv_entry ([.ref h0]) (n := 1) (Nat.le_of_ble_eq_true rfl)
  rw [lg_entry_eq]
  generalize (lg_sl ([.ref h0]) ++ List.replicate (1 - (lg_sl ([.ref h0])).length) Slot.unset).toArray = ls at hl ⊢
  have hl : lv_has ls 1 [(0, .ref h0)] := hl
  refine lv_aload_n hx hb dPg_init_0 rfl (lv_at hl 0 rfl) ?_
  refine W.objInit hx hb hown (htb _ kw_101) (htb _ kw_60) (htb _ kw_61) rfl (by rw [hml]; exact hl.1) rfl dPg_init_1 (Nat.le_of_ble_eq_true rfl) (Nat.le_of_ble_eq_true rfl) ?_
  refine W.eq (g2 := F0 m 4 ls []) rfl ?_
  refine lv_aload_n hx hb dPg_init_4 rfl (lv_at hl 0 rfl) ?_
  refine lv_bipush (v := 31) hx hb dPg_init_5 (by decide +kernel) ?_
  refine va_newa (atype := .int) (ty := .int) (a0 := (31, .inl (fun _ => 0))) hx hb (htb _ kwa_I) rfl hK.1 hP hD hS hA (fun _ => rfl) (by decide) (show (31 : Int32).toNatClampNeg = 31 by decide +kernel) (by decide) (show 0 + 1 ≤ 2 from Nat.le_of_ble_eq_true rfl) (show 0 + 31 ≤ 62 from Nat.le_of_ble_eq_true rfl) dPg_init_7 (fun q7 cA H hK1 hP hD hS => ?_)
  obtain rfl := ra_I hK hK1
  have hP : va_P (dC, dI) vwCl [(h0, .inr (4, [.null, .null, .int 0])), (q7, .inl (cI, 31, .inl (fun _ => 0)))] H := hP
  have hD : va_D A [(h0, .inr (4, [.null, .null, .int 0])), (q7, .inl (cI, 31, .inl (fun _ => 0)))] := hD
  refine W.cs (cells' := 1) (slots' := 31) (by rfl) (by rfl) ?_
  refine va_putF (D := (dC, dI)) (ci := 4) (v := .ref q7) (ty := .array .int) (C := RPg) (T := TPg) (N := 3) hx hb htb in_Pg tyPg tyPg_ok nmPg hown hK.1 hP hD hS 0 rfl rfl 0 (by decide) hf_9 (fun _ h9 => h9) rfl hin rfl (by decide +kernel) rfl rfl (Nat.le_of_ble_eq_true rfl) dPg_init_9 (fun H locs hP hD hS => ?_)
  have hP : va_P (dC, dI) vwCl [(h0, .inr (4, [.ref q7, .null, .int 0])), (q7, .inl (cI, 31, .inl (fun _ => 0)))] H := hP
  have hD : va_D A [(h0, .inr (4, [.ref q7, .null, .int 0])), (q7, .inl (cI, 31, .inl (fun _ => 0)))] := hD
  refine lv_aload_n hx hb dPg_init_12 rfl (lv_at hl 0 rfl) ?_
  refine lv_bipush (v := 31) hx hb dPg_init_13 (by decide +kernel) ?_
  refine va_newa (atype := .int) (ty := .int) (a0 := (31, .inl (fun _ => 0))) hx hb (htb _ kwa_I) rfl hK.1 hP hD hS hA (fun _ => rfl) (by decide) (show (31 : Int32).toNatClampNeg = 31 by decide +kernel) (by decide) (show 1 + 1 ≤ 2 from Nat.le_of_ble_eq_true rfl) (show 31 + 31 ≤ 62 from Nat.le_of_ble_eq_true rfl) dPg_init_15 (fun q15 cA H hK1 hP hD hS => ?_)
  obtain rfl := ra_I hK hK1
  have hP : va_P (dC, dI) vwCl [(h0, .inr (4, [.ref q7, .null, .int 0])), (q7, .inl (cI, 31, .inl (fun _ => 0))), (q15, .inl (cI, 31, .inl (fun _ => 0)))] H := hP
  have hD : va_D A [(h0, .inr (4, [.ref q7, .null, .int 0])), (q7, .inl (cI, 31, .inl (fun _ => 0))), (q15, .inl (cI, 31, .inl (fun _ => 0)))] := hD
  refine W.cs (cells' := 2) (slots' := 62) (by rfl) (by rfl) ?_
  refine va_putF (D := (dC, dI)) (ci := 4) (v := .ref q15) (ty := .array .int) (C := RPg) (T := TPg) (N := 3) hx hb htb in_Pg tyPg tyPg_ok nmPg hown hK.1 hP hD hS 0 rfl rfl 1 (by decide) hf_15 (fun _ h9 => h9) rfl hin rfl (by decide +kernel) rfl rfl (Nat.le_of_ble_eq_true rfl) dPg_init_17 (fun H locs hP hD hS => ?_)
  have hP : va_P (dC, dI) vwCl [(h0, .inr (4, [.ref q7, .ref q15, .int 0])), (q7, .inl (cI, 31, .inl (fun _ => 0))), (q15, .inl (cI, 31, .inl (fun _ => 0)))] H := hP
  have hD : va_D A [(h0, .inr (4, [.ref q7, .ref q15, .int 0])), (q7, .inl (cI, 31, .inl (fun _ => 0))), (q15, .inl (cI, 31, .inl (fun _ => 0)))] := hD
  have hP9 := hP.sub (ws' := [(h0, .inr (4, [.ref q7, .ref q15, .int 0])), (q7, .inl (cI, 31, .inl (fun _ => 0))), (q15, .inl (cI, 31, .inl (fun _ => 0)))]) [0, 1, 2] rfl
  have hD9 := hD.sub (ws' := [(h0, .inr (4, [.ref q7, .ref q15, .int 0])), (q7, .inl (cI, 31, .inl (fun _ => 0))), (q15, .inl (cI, 31, .inl (fun _ => 0)))]) [0, 1, 2] (by decide) rfl
  exact W.vret hx hb hr (fun t ht hW => ⟨⟨(q7, q15), rfl, trivial, by rw [ht]; exact hP9, hD9⟩, hS.F ht⟩) hS.2.2 dPg_init_20
set_option maxHeartbeats 4000000 in
set_option maxRecDepth 100000 in
theorem met_An_init (l : Launch) (dC : Nat → ClassId) (dI : Nat → Nat → Nat) (cI cL cB : ClassId) (sz : Nat) (h0 : Nat) : Met l yAn_init wsAn_init ({ frames := 1, cells := 2, slots := 4221, locals := 20 } : Room) (va_Pc [.ref h0] (fun U => U.heap.size = sz ∧ va_P (dC, dI) vwCl [(h0, .inr (0, [.null, .null]))] U.heap ∧ KK dC dI cI cL cB U ∧ va_D (fun _ => True) [(h0, .inr (0, [.null, .null]))])) (va_Qv (fun (_ : Nat × Nat) => True) (fun (u : Nat × Nat) t => va_P (dC, dI) vwCl [(h0, .inr (0, [.ref u.1, .ref u.2])), (u.1, .inl (cB, 4020, .inl (fun _ => 0))), (u.2, .inl (cI, 201, .inl (fun _ => 0)))] t.heap ∧ va_D (va_A [(h0, .inr (0, [.null, .null]))] sz) [(h0, .inr (0, [.ref u.1, .ref u.2])), (u.1, .inl (cB, 4020, .inl (fun _ => 0))), (u.2, .inl (cI, 201, .inl (fun _ => 0)))]) (va_A [(h0, .inr (0, [.null, .null]))] sz)) 2 4221 (va_A [(h0, .inr (0, [.null, .null]))] sz) := by
  refine Met.ofW (cc := cAn_init) (maxL := 1) (ret := none) (by decide) rfl ?_
  intro p e s m args below meth c s₁ B hml hv
  obtain ⟨rfl, hsz, hP, hK, hD0⟩ := hv
  have hx := B.exec
  have hb := B.bytes
  have hr := B.returns
  have hts := atoms_spec (ws := wsAn_init) B.pre
  have hown : s.vm.findClass RAn = some m.cls := findClass_of_methodNamed B.named
  have hlocks := B.notSynchronized
  have hin : meth.name = "<init>" := (name_of_methodNamed B.named B.method).1
  subst hsz
  have hD := hD0.self (sz := s.heap.size)
  generalize hAe : va_A [(h0, .inr (0, [.null, .null]))] s.heap.size = A at hD ⊢
  have hA : ∀ q : Nat, s.heap.size ≤ q → A q := fun q h => by rw [← hAe]; exact Or.inr h
  have hS : va_S A s.heap s.heap [] := va_S.rf
  have hP : va_P (dC, dI) vwCl [(h0, .inr (0, [.null, .null]))] s.heap := hP
  have htb : ∀ w ∈ TB, w.before _ s = true := fun w h => hts w (List.mem_cons_of_mem _ h)
  have hf_9 := htb _ kw_119
  have hf_15 := htb _ kw_120
  have hl := lv_entry ([.ref h0]) (n := 1) (Nat.le_of_ble_eq_true rfl)
  rw [lg_entry_eq]
  generalize (lg_sl ([.ref h0]) ++ List.replicate (1 - (lg_sl ([.ref h0])).length) Slot.unset).toArray = ls at hl ⊢
  have hl : lv_has ls 1 [(0, .ref h0)] := hl
  refine lv_aload_n hx hb dAn_init_0 rfl (lv_at hl 0 rfl) ?_
  refine W.objInit hx hb hown (htb _ kw_118) (htb _ kw_60) (htb _ kw_61) rfl (by rw [hml]; exact hl.1) rfl dAn_init_1 (Nat.le_of_ble_eq_true rfl) (Nat.le_of_ble_eq_true rfl) ?_
  refine W.eq (g2 := F0 m 4 ls []) rfl ?_
  refine lv_aload_n hx hb dAn_init_4 rfl (lv_at hl 0 rfl) ?_
  refine lv_sipush (v := 4020) hx hb dAn_init_5 (by decide +kernel) ?_
  refine va_newa (atype := .byte) (ty := .byte) (a0 := (4020, .inl (fun _ => 0))) hx hb (htb _ kwa_B) rfl hK.1 hP hD hS hA (fun _ => rfl) (by decide) (show (4020 : Int32).toNatClampNeg = 4020 by decide +kernel) (by decide) (show 0 + 1 ≤ 2 from Nat.le_of_ble_eq_true rfl) (show 0 + 4020 ≤ 4221 from Nat.le_of_ble_eq_true rfl) dAn_init_8 (fun q8 cA H hK1 hP hD hS => ?_)
  obtain rfl := ra_B hK hK1
  have hP : va_P (dC, dI) vwCl [(h0, .inr (0, [.null, .null])), (q8, .inl (cB, 4020, .inl (fun _ => 0)))] H := hP
  have hD : va_D A [(h0, .inr (0, [.null, .null])), (q8, .inl (cB, 4020, .inl (fun _ => 0)))] := hD
  refine W.cs (cells' := 1) (slots' := 4020) (by rfl) (by rfl) ?_
  refine va_putF (D := (dC, dI)) (ci := 0) (v := .ref q8) (ty := .array .byte) (C := RAn) (T := TAn) (N := 2) hx hb htb in_An tyAn tyAn_ok nmAn hown hK.1 hP hD hS 0 rfl rfl 0 (by decide) hf_9 (fun _ h9 => h9) rfl hin rfl (by decide +kernel) rfl rfl (Nat.le_of_ble_eq_true rfl) dAn_init_10 (fun H locs hP hD hS => ?_)
  have hP : va_P (dC, dI) vwCl [(h0, .inr (0, [.ref q8, .null])), (q8, .inl (cB, 4020, .inl (fun _ => 0)))] H := hP
  have hD : va_D A [(h0, .inr (0, [.ref q8, .null])), (q8, .inl (cB, 4020, .inl (fun _ => 0)))] := hD
  refine lv_aload_n hx hb dAn_init_13 rfl (lv_at hl 0 rfl) ?_
  refine lv_sipush (v := 201) hx hb dAn_init_14 (by decide +kernel) ?_
  refine va_newa (atype := .int) (ty := .int) (a0 := (201, .inl (fun _ => 0))) hx hb (htb _ kwa_I) rfl hK.1 hP hD hS hA (fun _ => rfl) (by decide) (show (201 : Int32).toNatClampNeg = 201 by decide +kernel) (by decide) (show 1 + 1 ≤ 2 from Nat.le_of_ble_eq_true rfl) (show 4020 + 201 ≤ 4221 from Nat.le_of_ble_eq_true rfl) dAn_init_17 (fun q17 cA H hK1 hP hD hS => ?_)
  obtain rfl := ra_I hK hK1
  have hP : va_P (dC, dI) vwCl [(h0, .inr (0, [.ref q8, .null])), (q8, .inl (cB, 4020, .inl (fun _ => 0))), (q17, .inl (cI, 201, .inl (fun _ => 0)))] H := hP
  have hD : va_D A [(h0, .inr (0, [.ref q8, .null])), (q8, .inl (cB, 4020, .inl (fun _ => 0))), (q17, .inl (cI, 201, .inl (fun _ => 0)))] := hD
  refine W.cs (cells' := 2) (slots' := 4221) (by rfl) (by rfl) ?_
  refine va_putF (D := (dC, dI)) (ci := 0) (v := .ref q17) (ty := .array .int) (C := RAn) (T := TAn) (N := 2) hx hb htb in_An tyAn tyAn_ok nmAn hown hK.1 hP hD hS 0 rfl rfl 1 (by decide) hf_15 (fun _ h9 => h9) rfl hin rfl (by decide +kernel) rfl rfl (Nat.le_of_ble_eq_true rfl) dAn_init_19 (fun H locs hP hD hS => ?_)
  have hP : va_P (dC, dI) vwCl [(h0, .inr (0, [.ref q8, .ref q17])), (q8, .inl (cB, 4020, .inl (fun _ => 0))), (q17, .inl (cI, 201, .inl (fun _ => 0)))] H := hP
  have hD : va_D A [(h0, .inr (0, [.ref q8, .ref q17])), (q8, .inl (cB, 4020, .inl (fun _ => 0))), (q17, .inl (cI, 201, .inl (fun _ => 0)))] := hD
  have hP9 := hP.sub (ws' := [(h0, .inr (0, [.ref q8, .ref q17])), (q8, .inl (cB, 4020, .inl (fun _ => 0))), (q17, .inl (cI, 201, .inl (fun _ => 0)))]) [0, 1, 2] rfl
  have hD9 := hD.sub (ws' := [(h0, .inr (0, [.ref q8, .ref q17])), (q8, .inl (cB, 4020, .inl (fun _ => 0))), (q17, .inl (cI, 201, .inl (fun _ => 0)))]) [0, 1, 2] (by decide) rfl
  exact W.vret hx hb hr (fun t ht hW => ⟨⟨(q8, q17), rfl, trivial, by rw [ht]; exact hP9, hD9⟩, hS.F ht⟩) hS.2.2 dAn_init_22
set_option maxHeartbeats 4000000 in
set_option maxRecDepth 100000 in
theorem met_Sc_init (l : Launch) (dC : Nat → ClassId) (dI : Nat → Nat → Nat) (cI cL cB : ClassId) (sz : Nat) (h0 : Nat) : Met l ySc_init wsSc_init ({ frames := 1, cells := 3, slots := 281, locals := 20 } : Room) (va_Pc [.ref h0] (fun U => U.heap.size = sz ∧ va_P (dC, dI) vwCl [(h0, .inr (5, [.null, .null, .null, .int 0]))] U.heap ∧ KK dC dI cI cL cB U ∧ va_D (fun _ => True) [(h0, .inr (5, [.null, .null, .null, .int 0]))])) (va_Qv (fun (_ : Nat × Nat × Nat) => True) (fun (u : Nat × Nat × Nat) t => va_P (dC, dI) vwCl [(h0, .inr (5, [.ref u.1, .ref u.2.1, .ref u.2.2, .int 0])), (u.1, .inl (cI, 40, .inl (fun _ => 0))), (u.2.1, .inl (cL, 40, .inr (.inl (fun _ => 0)))), (u.2.2, .inl (cI, 201, .inl (fun _ => 0)))] t.heap ∧ va_D (va_A [(h0, .inr (5, [.null, .null, .null, .int 0]))] sz) [(h0, .inr (5, [.ref u.1, .ref u.2.1, .ref u.2.2, .int 0])), (u.1, .inl (cI, 40, .inl (fun _ => 0))), (u.2.1, .inl (cL, 40, .inr (.inl (fun _ => 0)))), (u.2.2, .inl (cI, 201, .inl (fun _ => 0)))]) (va_A [(h0, .inr (5, [.null, .null, .null, .int 0]))] sz)) 3 281 (va_A [(h0, .inr (5, [.null, .null, .null, .int 0]))] sz) := by
  refine Met.ofW (cc := cSc_init) (maxL := 1) (ret := none) (by decide) rfl ?_
  intro p e s m args below meth c s₁ B hml hv
  obtain ⟨rfl, hsz, hP, hK, hD0⟩ := hv
  have hx := B.exec
  have hb := B.bytes
  have hr := B.returns
  have hts := atoms_spec (ws := wsSc_init) B.pre
  have hown : s.vm.findClass RSc = some m.cls := findClass_of_methodNamed B.named
  have hlocks := B.notSynchronized
  have hin : meth.name = "<init>" := (name_of_methodNamed B.named B.method).1
  subst hsz
  have hD := hD0.self (sz := s.heap.size)
  generalize hAe : va_A [(h0, .inr (5, [.null, .null, .null, .int 0]))] s.heap.size = A at hD ⊢
  have hA : ∀ q : Nat, s.heap.size ≤ q → A q := fun q h => by rw [← hAe]; exact Or.inr h
  have hS : va_S A s.heap s.heap [] := va_S.rf
  have hP : va_P (dC, dI) vwCl [(h0, .inr (5, [.null, .null, .null, .int 0]))] s.heap := hP
  have htb : ∀ w ∈ TB, w.before _ s = true := fun w h => hts w (List.mem_cons_of_mem _ h)
  have hf_9 := htb _ kw_133
  have hf_15 := htb _ kw_134
  have hf_19 := htb _ kw_135
  have hl := lv_entry ([.ref h0]) (n := 1) (Nat.le_of_ble_eq_true rfl)
  rw [lg_entry_eq]
  generalize (lg_sl ([.ref h0]) ++ List.replicate (1 - (lg_sl ([.ref h0])).length) Slot.unset).toArray = ls at hl ⊢
  have hl : lv_has ls 1 [(0, .ref h0)] := hl
  refine lv_aload_n hx hb dSc_init_0 rfl (lv_at hl 0 rfl) ?_
  refine W.objInit hx hb hown (htb _ kw_132) (htb _ kw_60) (htb _ kw_61) rfl (by rw [hml]; exact hl.1) rfl dSc_init_1 (Nat.le_of_ble_eq_true rfl) (Nat.le_of_ble_eq_true rfl) ?_
  refine W.eq (g2 := F0 m 4 ls []) rfl ?_
  refine lv_aload_n hx hb dSc_init_4 rfl (lv_at hl 0 rfl) ?_
  refine lv_bipush (v := 40) hx hb dSc_init_5 (by decide +kernel) ?_
  refine va_newa (atype := .int) (ty := .int) (a0 := (40, .inl (fun _ => 0))) hx hb (htb _ kwa_I) rfl hK.1 hP hD hS hA (fun _ => rfl) (by decide) (show (40 : Int32).toNatClampNeg = 40 by decide +kernel) (by decide) (show 0 + 1 ≤ 3 from Nat.le_of_ble_eq_true rfl) (show 0 + 40 ≤ 281 from Nat.le_of_ble_eq_true rfl) dSc_init_7 (fun q7 cA H hK1 hP hD hS => ?_)
  obtain rfl := ra_I hK hK1
  have hP : va_P (dC, dI) vwCl [(h0, .inr (5, [.null, .null, .null, .int 0])), (q7, .inl (cI, 40, .inl (fun _ => 0)))] H := hP
  have hD : va_D A [(h0, .inr (5, [.null, .null, .null, .int 0])), (q7, .inl (cI, 40, .inl (fun _ => 0)))] := hD
  refine W.cs (cells' := 1) (slots' := 40) (by rfl) (by rfl) ?_
  refine va_putF (D := (dC, dI)) (ci := 5) (v := .ref q7) (ty := .array .int) (C := RSc) (T := TSc) (N := 4) hx hb htb in_Sc tySc tySc_ok nmSc hown hK.1 hP hD hS 0 rfl rfl 0 (by decide) hf_9 (fun _ h9 => h9) rfl hin rfl (by decide +kernel) rfl rfl (Nat.le_of_ble_eq_true rfl) dSc_init_9 (fun H locs hP hD hS => ?_)
  have hP : va_P (dC, dI) vwCl [(h0, .inr (5, [.ref q7, .null, .null, .int 0])), (q7, .inl (cI, 40, .inl (fun _ => 0)))] H := hP
  have hD : va_D A [(h0, .inr (5, [.ref q7, .null, .null, .int 0])), (q7, .inl (cI, 40, .inl (fun _ => 0)))] := hD
  refine lv_aload_n hx hb dSc_init_12 rfl (lv_at hl 0 rfl) ?_
  refine lv_bipush (v := 40) hx hb dSc_init_13 (by decide +kernel) ?_
  refine va_newa (atype := .long) (ty := .long) (a0 := (40, .inr (.inl (fun _ => 0)))) hx hb (htb _ kwa_J) rfl hK.1 hP hD hS hA (fun _ => rfl) (by decide) (show (40 : Int32).toNatClampNeg = 40 by decide +kernel) (by decide) (show 1 + 1 ≤ 3 from Nat.le_of_ble_eq_true rfl) (show 40 + 40 ≤ 281 from Nat.le_of_ble_eq_true rfl) dSc_init_15 (fun q15 cA H hK1 hP hD hS => ?_)
  obtain rfl := ra_J hK hK1
  have hP : va_P (dC, dI) vwCl [(h0, .inr (5, [.ref q7, .null, .null, .int 0])), (q7, .inl (cI, 40, .inl (fun _ => 0))), (q15, .inl (cL, 40, .inr (.inl (fun _ => 0))))] H := hP
  have hD : va_D A [(h0, .inr (5, [.ref q7, .null, .null, .int 0])), (q7, .inl (cI, 40, .inl (fun _ => 0))), (q15, .inl (cL, 40, .inr (.inl (fun _ => 0))))] := hD
  refine W.cs (cells' := 2) (slots' := 80) (by rfl) (by rfl) ?_
  refine va_putF (D := (dC, dI)) (ci := 5) (v := .ref q15) (ty := .array .long) (C := RSc) (T := TSc) (N := 4) hx hb htb in_Sc tySc tySc_ok nmSc hown hK.1 hP hD hS 0 rfl rfl 1 (by decide) hf_15 (fun _ h9 => h9) rfl hin rfl (by decide +kernel) rfl rfl (Nat.le_of_ble_eq_true rfl) dSc_init_17 (fun H locs hP hD hS => ?_)
  have hP : va_P (dC, dI) vwCl [(h0, .inr (5, [.ref q7, .ref q15, .null, .int 0])), (q7, .inl (cI, 40, .inl (fun _ => 0))), (q15, .inl (cL, 40, .inr (.inl (fun _ => 0))))] H := hP
  have hD : va_D A [(h0, .inr (5, [.ref q7, .ref q15, .null, .int 0])), (q7, .inl (cI, 40, .inl (fun _ => 0))), (q15, .inl (cL, 40, .inr (.inl (fun _ => 0))))] := hD
  refine lv_aload_n hx hb dSc_init_20 rfl (lv_at hl 0 rfl) ?_
  refine lv_sipush (v := 201) hx hb dSc_init_21 (by decide +kernel) ?_
  refine va_newa (atype := .int) (ty := .int) (a0 := (201, .inl (fun _ => 0))) hx hb (htb _ kwa_I) rfl hK.1 hP hD hS hA (fun _ => rfl) (by decide) (show (201 : Int32).toNatClampNeg = 201 by decide +kernel) (by decide) (show 2 + 1 ≤ 3 from Nat.le_of_ble_eq_true rfl) (show 80 + 201 ≤ 281 from Nat.le_of_ble_eq_true rfl) dSc_init_24 (fun q24 cA H hK1 hP hD hS => ?_)
  obtain rfl := ra_I hK hK1
  have hP : va_P (dC, dI) vwCl [(h0, .inr (5, [.ref q7, .ref q15, .null, .int 0])), (q7, .inl (cI, 40, .inl (fun _ => 0))), (q15, .inl (cL, 40, .inr (.inl (fun _ => 0)))), (q24, .inl (cI, 201, .inl (fun _ => 0)))] H := hP
  have hD : va_D A [(h0, .inr (5, [.ref q7, .ref q15, .null, .int 0])), (q7, .inl (cI, 40, .inl (fun _ => 0))), (q15, .inl (cL, 40, .inr (.inl (fun _ => 0)))), (q24, .inl (cI, 201, .inl (fun _ => 0)))] := hD
  refine W.cs (cells' := 3) (slots' := 281) (by rfl) (by rfl) ?_
  refine va_putF (D := (dC, dI)) (ci := 5) (v := .ref q24) (ty := .array .int) (C := RSc) (T := TSc) (N := 4) hx hb htb in_Sc tySc tySc_ok nmSc hown hK.1 hP hD hS 0 rfl rfl 2 (by decide) hf_19 (fun _ h9 => h9) rfl hin rfl (by decide +kernel) rfl rfl (Nat.le_of_ble_eq_true rfl) dSc_init_26 (fun H locs hP hD hS => ?_)
  have hP : va_P (dC, dI) vwCl [(h0, .inr (5, [.ref q7, .ref q15, .ref q24, .int 0])), (q7, .inl (cI, 40, .inl (fun _ => 0))), (q15, .inl (cL, 40, .inr (.inl (fun _ => 0)))), (q24, .inl (cI, 201, .inl (fun _ => 0)))] H := hP
  have hD : va_D A [(h0, .inr (5, [.ref q7, .ref q15, .ref q24, .int 0])), (q7, .inl (cI, 40, .inl (fun _ => 0))), (q15, .inl (cL, 40, .inr (.inl (fun _ => 0)))), (q24, .inl (cI, 201, .inl (fun _ => 0)))] := hD
  have hP9 := hP.sub (ws' := [(h0, .inr (5, [.ref q7, .ref q15, .ref q24, .int 0])), (q7, .inl (cI, 40, .inl (fun _ => 0))), (q15, .inl (cL, 40, .inr (.inl (fun _ => 0)))), (q24, .inl (cI, 201, .inl (fun _ => 0)))]) [0, 1, 2, 3] rfl
  have hD9 := hD.sub (ws' := [(h0, .inr (5, [.ref q7, .ref q15, .ref q24, .int 0])), (q7, .inl (cI, 40, .inl (fun _ => 0))), (q15, .inl (cL, 40, .inr (.inl (fun _ => 0)))), (q24, .inl (cI, 201, .inl (fun _ => 0)))]) [0, 1, 2, 3] (by decide) rfl
  exact W.vret hx hb hr (fun t ht hW => ⟨⟨(q7, q15, q24), rfl, trivial, by rw [ht]; exact hP9, hD9⟩, hS.F ht⟩) hS.2.2 dSc_init_29
set_option maxHeartbeats 4000000 in
set_option maxRecDepth 100000 in
theorem met_Jo_init (l : Launch) (dC : Nat → ClassId) (dI : Nat → Nat → Nat) (cI cL cB : ClassId) (sz : Nat) (h0 : Nat) : Met l yJo_init wsJo_init ({ frames := 1, cells := 1, slots := 1000, locals := 20 } : Room) (va_Pc [.ref h0] (fun U => U.heap.size = sz ∧ va_P (dC, dI) vwCl [(h0, .inr (1, [.null, .int 0, .int 0, .int 0, .int 0, .int 0, .long 0]))] U.heap ∧ KK dC dI cI cL cB U ∧ va_D (fun _ => True) [(h0, .inr (1, [.null, .int 0, .int 0, .int 0, .int 0, .int 0, .long 0]))])) (va_Qv (fun (_ : Nat) => True) (fun (u : Nat) t => va_P (dC, dI) vwCl [(h0, .inr (1, [.ref u, .int 0, .int 0, .int 1, .int 0, .int 0, .long 0])), (u, .inl (cI, 1000, .inl (fun _ => 0)))] t.heap ∧ va_D (va_A [(h0, .inr (1, [.null, .int 0, .int 0, .int 0, .int 0, .int 0, .long 0]))] sz) [(h0, .inr (1, [.ref u, .int 0, .int 0, .int 1, .int 0, .int 0, .long 0])), (u, .inl (cI, 1000, .inl (fun _ => 0)))]) (va_A [(h0, .inr (1, [.null, .int 0, .int 0, .int 0, .int 0, .int 0, .long 0]))] sz)) 1 1000 (va_A [(h0, .inr (1, [.null, .int 0, .int 0, .int 0, .int 0, .int 0, .long 0]))] sz) := by
  refine Met.ofW (cc := cJo_init) (maxL := 1) (ret := none) (by decide) rfl ?_
  intro p e s m args below meth c s₁ B hml hv
  obtain ⟨rfl, hsz, hP, hK, hD0⟩ := hv
  have hx := B.exec
  have hb := B.bytes
  have hr := B.returns
  have hts := atoms_spec (ws := wsJo_init) B.pre
  have hown : s.vm.findClass RJo = some m.cls := findClass_of_methodNamed B.named
  have hlocks := B.notSynchronized
  have hin : meth.name = "<init>" := (name_of_methodNamed B.named B.method).1
  subst hsz
  have hD := hD0.self (sz := s.heap.size)
  generalize hAe : va_A [(h0, .inr (1, [.null, .int 0, .int 0, .int 0, .int 0, .int 0, .long 0]))] s.heap.size = A at hD ⊢
  have hA : ∀ q : Nat, s.heap.size ≤ q → A q := fun q h => by rw [← hAe]; exact Or.inr h
  have hS : va_S A s.heap s.heap [] := va_S.rf
  have hP : va_P (dC, dI) vwCl [(h0, .inr (1, [.null, .int 0, .int 0, .int 0, .int 0, .int 0, .long 0]))] s.heap := hP
  have htb : ∀ w ∈ TB, w.before _ s = true := fun w h => hts w (List.mem_cons_of_mem _ h)
  have hf_9 := htb _ kw_154
  have hf_15 := htb _ kw_158
  have hl := lv_entry ([.ref h0]) (n := 1) (Nat.le_of_ble_eq_true rfl)
  rw [lg_entry_eq]
  generalize (lg_sl ([.ref h0]) ++ List.replicate (1 - (lg_sl ([.ref h0])).length) Slot.unset).toArray = ls at hl ⊢
  have hl : lv_has ls 1 [(0, .ref h0)] := hl
  refine lv_aload_n hx hb dJo_init_0 rfl (lv_at hl 0 rfl) ?_
  refine W.objInit hx hb hown (htb _ kw_153) (htb _ kw_60) (htb _ kw_61) rfl (by rw [hml]; exact hl.1) rfl dJo_init_1 (Nat.le_of_ble_eq_true rfl) (Nat.le_of_ble_eq_true rfl) ?_
  refine W.eq (g2 := F0 m 4 ls []) rfl ?_
  refine lv_aload_n hx hb dJo_init_4 rfl (lv_at hl 0 rfl) ?_
  refine lv_sipush (v := 1000) hx hb dJo_init_5 (by decide +kernel) ?_
  refine va_newa (atype := .int) (ty := .int) (a0 := (1000, .inl (fun _ => 0))) hx hb (htb _ kwa_I) rfl hK.1 hP hD hS hA (fun _ => rfl) (by decide) (show (1000 : Int32).toNatClampNeg = 1000 by decide +kernel) (by decide) (show 0 + 1 ≤ 1 from Nat.le_of_ble_eq_true rfl) (show 0 + 1000 ≤ 1000 from Nat.le_of_ble_eq_true rfl) dJo_init_8 (fun q8 cA H hK1 hP hD hS => ?_)
  obtain rfl := ra_I hK hK1
  have hP : va_P (dC, dI) vwCl [(h0, .inr (1, [.null, .int 0, .int 0, .int 0, .int 0, .int 0, .long 0])), (q8, .inl (cI, 1000, .inl (fun _ => 0)))] H := hP
  have hD : va_D A [(h0, .inr (1, [.null, .int 0, .int 0, .int 0, .int 0, .int 0, .long 0])), (q8, .inl (cI, 1000, .inl (fun _ => 0)))] := hD
  refine W.cs (cells' := 1) (slots' := 1000) (by rfl) (by rfl) ?_
  refine va_putF (D := (dC, dI)) (ci := 1) (v := .ref q8) (ty := .array .int) (C := RJo) (T := TJo) (N := 7) hx hb htb in_Jo tyJo tyJo_ok nmJo hown hK.1 hP hD hS 0 rfl rfl 0 (by decide) hf_9 (fun _ h9 => h9) rfl hin rfl (by decide +kernel) rfl rfl (Nat.le_of_ble_eq_true rfl) dJo_init_10 (fun H locs hP hD hS => ?_)
  have hP : va_P (dC, dI) vwCl [(h0, .inr (1, [.ref q8, .int 0, .int 0, .int 0, .int 0, .int 0, .long 0])), (q8, .inl (cI, 1000, .inl (fun _ => 0)))] H := hP
  have hD : va_D A [(h0, .inr (1, [.ref q8, .int 0, .int 0, .int 0, .int 0, .int 0, .long 0])), (q8, .inl (cI, 1000, .inl (fun _ => 0)))] := hD
  refine lv_aload_n hx hb dJo_init_13 rfl (lv_at hl 0 rfl) ?_
  refine lv_iconst (v := 1) hx hb dJo_init_14 (by decide) ?_
  refine va_put (D := (dC, dI)) (ci := 1) (v := .int 1) (ty := .int) (C := RJo) (T := TJo) (N := 7) hx hb htb in_Jo tyJo tyJo_ok nmJo hown hK.1 hP hD hS 0 rfl rfl 3 (by decide) hf_15 (fun _ h9 => h9) rfl (by decide +kernel) rfl rfl (Nat.le_of_ble_eq_true rfl) dJo_init_15 (fun H locs hP hD hS => ?_)
  have hP : va_P (dC, dI) vwCl [(h0, .inr (1, [.ref q8, .int 0, .int 0, .int 1, .int 0, .int 0, .long 0])), (q8, .inl (cI, 1000, .inl (fun _ => 0)))] H := hP
  have hD : va_D A [(h0, .inr (1, [.ref q8, .int 0, .int 0, .int 1, .int 0, .int 0, .long 0])), (q8, .inl (cI, 1000, .inl (fun _ => 0)))] := hD
  have hP9 := hP.sub (ws' := [(h0, .inr (1, [.ref q8, .int 0, .int 0, .int 1, .int 0, .int 0, .long 0])), (q8, .inl (cI, 1000, .inl (fun _ => 0)))]) [0, 1] rfl
  have hD9 := hD.sub (ws' := [(h0, .inr (1, [.ref q8, .int 0, .int 0, .int 1, .int 0, .int 0, .long 0])), (q8, .inl (cI, 1000, .inl (fun _ => 0)))]) [0, 1] (by decide) rfl
  exact W.vret hx hb hr (fun t ht hW => ⟨⟨q8, rfl, trivial, by rw [ht]; exact hP9, hD9⟩, hS.F ht⟩) hS.2.2 dJo_init_18
set_option maxHeartbeats 4000000 in
set_option maxRecDepth 100000 in
theorem met_Sp_init (l : Launch) (dC : Nat → ClassId) (dI : Nat → Nat → Nat) (cI cL cB : ClassId) (sz : Nat) (h0 r1 r2 r3 r4 r5 : Nat) : Met l ySp_init wsSp_init ({ frames := 1, cells := 0, slots := 0, locals := 20 } : Room) (va_Pc [.ref h0, .ref r1, .ref r2, .ref r3, .ref r4, .ref r5] (fun U => U.heap.size = sz ∧ va_P (dC, dI) vwCl [(h0, .inr (7, [.null, .null, .null, .null, .null, .int 0, .int 0]))] U.heap ∧ KK dC dI cI cL cB U ∧ va_D (fun _ => True) [(h0, .inr (7, [.null, .null, .null, .null, .null, .int 0, .int 0]))])) (va_Qv (fun (_ : Unit) => True) (fun (u : Unit) t => va_P (dC, dI) vwCl [(h0, .inr (7, [.ref r1, .ref r2, .ref r3, .ref r4, .ref r5, .int 0, .int 0]))] t.heap ∧ va_D (va_A [(h0, .inr (7, [.null, .null, .null, .null, .null, .int 0, .int 0]))] sz) [(h0, .inr (7, [.ref r1, .ref r2, .ref r3, .ref r4, .ref r5, .int 0, .int 0]))]) (va_A [(h0, .inr (7, [.null, .null, .null, .null, .null, .int 0, .int 0]))] sz)) 0 0 (va_A [(h0, .inr (7, [.null, .null, .null, .null, .null, .int 0, .int 0]))] sz) := by
  refine Met.ofW (cc := cSp_init) (maxL := 6) (ret := none) (by decide) rfl ?_
  intro p e s m args below meth c s₁ B hml hv
  obtain ⟨rfl, hsz, hP, hK, hD0⟩ := hv
  have hx := B.exec
  have hb := B.bytes
  have hr := B.returns
  have hts := atoms_spec (ws := wsSp_init) B.pre
  have hown : s.vm.findClass RSp = some m.cls := findClass_of_methodNamed B.named
  have hlocks := B.notSynchronized
  have hin : meth.name = "<init>" := (name_of_methodNamed B.named B.method).1
  subst hsz
  have hD := hD0.self (sz := s.heap.size)
  generalize hAe : va_A [(h0, .inr (7, [.null, .null, .null, .null, .null, .int 0, .int 0]))] s.heap.size = A at hD ⊢
  have hA : ∀ q : Nat, s.heap.size ≤ q → A q := fun q h => by rw [← hAe]; exact Or.inr h
  have hS : va_S A s.heap s.heap [] := va_S.rf
  have hP : va_P (dC, dI) vwCl [(h0, .inr (7, [.null, .null, .null, .null, .null, .int 0, .int 0]))] s.heap := hP
  have htb : ∀ w ∈ TB, w.before _ s = true := fun w h => hts w (List.mem_cons_of_mem _ h)
  have hf_9 := htb _ kw_191
  have hf_15 := htb _ kw_192
  have hf_19 := htb _ kw_193
  have hf_23 := htb _ kw_194
  have hf_27 := htb _ kw_195
  have hl := lv_entry ([.ref h0, .ref r1, .ref r2, .ref r3, .ref r4, .ref r5]) (n := 6) (Nat.le_of_ble_eq_true rfl)
  rw [lg_entry_eq]
  generalize (lg_sl ([.ref h0, .ref r1, .ref r2, .ref r3, .ref r4, .ref r5]) ++ List.replicate (6 - (lg_sl ([.ref h0, .ref r1, .ref r2, .ref r3, .ref r4, .ref r5])).length) Slot.unset).toArray = ls at hl ⊢
  have hl : lv_has ls 6 [(0, .ref h0), (1, .ref r1), (2, .ref r2), (3, .ref r3), (4, .ref r4), (5, .ref r5)] := hl
  refine lv_aload_n hx hb dSp_init_0 rfl (lv_at hl 0 rfl) ?_
  refine W.objInit hx hb hown (htb _ kw_190) (htb _ kw_60) (htb _ kw_61) rfl (by rw [hml]; exact hl.1) rfl dSp_init_1 (Nat.le_of_ble_eq_true rfl) (Nat.le_of_ble_eq_true rfl) ?_
  refine W.eq (g2 := F0 m 4 ls []) rfl ?_
  refine lv_aload_n hx hb dSp_init_4 rfl (lv_at hl 0 rfl) ?_
  refine lv_aload_n hx hb dSp_init_5 rfl (lv_at hl 1 rfl) ?_
  refine va_putF (D := (dC, dI)) (ci := 7) (v := .ref r1) (ty := .object "ParagraphWalk$Nodes") (C := RSp) (T := TSp) (N := 7) hx hb htb in_Sp tySp tySp_ok nmSp hown hK.1 hP hD hS 0 rfl rfl 0 (by decide) hf_9 (fun _ h9 => h9) rfl hin rfl (by decide +kernel) rfl rfl (Nat.le_of_ble_eq_true rfl) dSp_init_6 (fun H locs hP hD hS => ?_)
  have hP : va_P (dC, dI) vwCl [(h0, .inr (7, [.ref r1, .null, .null, .null, .null, .int 0, .int 0]))] H := hP
  have hD : va_D A [(h0, .inr (7, [.ref r1, .null, .null, .null, .null, .int 0, .int 0]))] := hD
  refine lv_aload_n hx hb dSp_init_9 rfl (lv_at hl 0 rfl) ?_
  refine lv_aload_n hx hb dSp_init_10 rfl (lv_at hl 2 rfl) ?_
  refine va_putF (D := (dC, dI)) (ci := 7) (v := .ref r2) (ty := .object "ParagraphWalk$Paragraphs") (C := RSp) (T := TSp) (N := 7) hx hb htb in_Sp tySp tySp_ok nmSp hown hK.1 hP hD hS 0 rfl rfl 1 (by decide) hf_15 (fun _ h9 => h9) rfl hin rfl (by decide +kernel) rfl rfl (Nat.le_of_ble_eq_true rfl) dSp_init_11 (fun H locs hP hD hS => ?_)
  have hP : va_P (dC, dI) vwCl [(h0, .inr (7, [.ref r1, .ref r2, .null, .null, .null, .int 0, .int 0]))] H := hP
  have hD : va_D A [(h0, .inr (7, [.ref r1, .ref r2, .null, .null, .null, .int 0, .int 0]))] := hD
  refine lv_aload_n hx hb dSp_init_14 rfl (lv_at hl 0 rfl) ?_
  refine lv_aload_n hx hb dSp_init_15 rfl (lv_at hl 3 rfl) ?_
  refine va_putF (D := (dC, dI)) (ci := 7) (v := .ref r3) (ty := .object "ParagraphWalk$Answers") (C := RSp) (T := TSp) (N := 7) hx hb htb in_Sp tySp tySp_ok nmSp hown hK.1 hP hD hS 0 rfl rfl 2 (by decide) hf_19 (fun _ h9 => h9) rfl hin rfl (by decide +kernel) rfl rfl (Nat.le_of_ble_eq_true rfl) dSp_init_16 (fun H locs hP hD hS => ?_)
  have hP : va_P (dC, dI) vwCl [(h0, .inr (7, [.ref r1, .ref r2, .ref r3, .null, .null, .int 0, .int 0]))] H := hP
  have hD : va_D A [(h0, .inr (7, [.ref r1, .ref r2, .ref r3, .null, .null, .int 0, .int 0]))] := hD
  refine lv_aload_n hx hb dSp_init_19 rfl (lv_at hl 0 rfl) ?_
  refine lv_aload hx hb dSp_init_20 (lv_at hl 4 rfl) ?_
  refine va_putF (D := (dC, dI)) (ci := 7) (v := .ref r4) (ty := .object "ParagraphWalk$Scene") (C := RSp) (T := TSp) (N := 7) hx hb htb in_Sp tySp tySp_ok nmSp hown hK.1 hP hD hS 0 rfl rfl 3 (by decide) hf_23 (fun _ h9 => h9) rfl hin rfl (by decide +kernel) rfl rfl (Nat.le_of_ble_eq_true rfl) dSp_init_22 (fun H locs hP hD hS => ?_)
  have hP : va_P (dC, dI) vwCl [(h0, .inr (7, [.ref r1, .ref r2, .ref r3, .ref r4, .null, .int 0, .int 0]))] H := hP
  have hD : va_D A [(h0, .inr (7, [.ref r1, .ref r2, .ref r3, .ref r4, .null, .int 0, .int 0]))] := hD
  refine lv_aload_n hx hb dSp_init_25 rfl (lv_at hl 0 rfl) ?_
  refine lv_aload hx hb dSp_init_26 (lv_at hl 5 rfl) ?_
  refine va_putF (D := (dC, dI)) (ci := 7) (v := .ref r5) (ty := .object "ParagraphWalk$Journey") (C := RSp) (T := TSp) (N := 7) hx hb htb in_Sp tySp tySp_ok nmSp hown hK.1 hP hD hS 0 rfl rfl 4 (by decide) hf_27 (fun _ h9 => h9) rfl hin rfl (by decide +kernel) rfl rfl (Nat.le_of_ble_eq_true rfl) dSp_init_28 (fun H locs hP hD hS => ?_)
  have hP : va_P (dC, dI) vwCl [(h0, .inr (7, [.ref r1, .ref r2, .ref r3, .ref r4, .ref r5, .int 0, .int 0]))] H := hP
  have hD : va_D A [(h0, .inr (7, [.ref r1, .ref r2, .ref r3, .ref r4, .ref r5, .int 0, .int 0]))] := hD
  have hP9 := hP.sub (ws' := [(h0, .inr (7, [.ref r1, .ref r2, .ref r3, .ref r4, .ref r5, .int 0, .int 0]))]) [0] rfl
  have hD9 := hD.sub (ws' := [(h0, .inr (7, [.ref r1, .ref r2, .ref r3, .ref r4, .ref r5, .int 0, .int 0]))]) [0] (by decide) rfl
  exact W.vret hx hb hr (fun t ht hW => ⟨⟨(), rfl, trivial, by rw [ht]; exact hP9, hD9⟩, hS.F ht⟩) hS.2.2 dSp_init_31
set_option maxHeartbeats 4000000 in
set_option maxRecDepth 100000 in
theorem met_Wk_init (l : Launch) (dC : Nat → ClassId) (dI : Nat → Nat → Nat) (cI cL cB : ClassId) (sz : Nat) (h0 r1 r2 r3 r4 : Nat) : Met l yWk_init wsWk_init ({ frames := 1, cells := 1, slots := 202, locals := 20 } : Room) (va_Pc [.ref h0, .ref r1, .ref r2, .ref r3, .ref r4] (fun U => U.heap.size = sz ∧ va_P (dC, dI) vwCl [(h0, .inr (6, [.null, .null, .null, .null, .null, .int 0, .int 0]))] U.heap ∧ KK dC dI cI cL cB U ∧ va_D (fun _ => True) [(h0, .inr (6, [.null, .null, .null, .null, .null, .int 0, .int 0]))])) (va_Qv (fun (_ : Nat) => True) (fun (u : Nat) t => va_P (dC, dI) vwCl [(h0, .inr (6, [.ref r1, .ref r2, .ref r3, .ref r4, .ref u, .int 0, .int 0])), (u, .inl (cI, 202, .inl (fun _ => 0)))] t.heap ∧ va_D (va_A [(h0, .inr (6, [.null, .null, .null, .null, .null, .int 0, .int 0]))] sz) [(h0, .inr (6, [.ref r1, .ref r2, .ref r3, .ref r4, .ref u, .int 0, .int 0])), (u, .inl (cI, 202, .inl (fun _ => 0)))]) (va_A [(h0, .inr (6, [.null, .null, .null, .null, .null, .int 0, .int 0]))] sz)) 1 202 (va_A [(h0, .inr (6, [.null, .null, .null, .null, .null, .int 0, .int 0]))] sz) := by
  refine Met.ofW (cc := cWk_init) (maxL := 5) (ret := none) (by decide) rfl ?_
  intro p e s m args below meth c s₁ B hml hv
  obtain ⟨rfl, hsz, hP, hK, hD0⟩ := hv
  have hx := B.exec
  have hb := B.bytes
  have hr := B.returns
  have hts := atoms_spec (ws := wsWk_init) B.pre
  have hown : s.vm.findClass RWk = some m.cls := findClass_of_methodNamed B.named
  have hlocks := B.notSynchronized
  have hin : meth.name = "<init>" := (name_of_methodNamed B.named B.method).1
  subst hsz
  have hD := hD0.self (sz := s.heap.size)
  generalize hAe : va_A [(h0, .inr (6, [.null, .null, .null, .null, .null, .int 0, .int 0]))] s.heap.size = A at hD ⊢
  have hA : ∀ q : Nat, s.heap.size ≤ q → A q := fun q h => by rw [← hAe]; exact Or.inr h
  have hS : va_S A s.heap s.heap [] := va_S.rf
  have hP : va_P (dC, dI) vwCl [(h0, .inr (6, [.null, .null, .null, .null, .null, .int 0, .int 0]))] s.heap := hP
  have htb : ∀ w ∈ TB, w.before _ s = true := fun w h => hts w (List.mem_cons_of_mem _ h)
  have hf_9 := htb _ kw_223
  have hf_15 := htb _ kw_219
  have hf_19 := htb _ kw_220
  have hf_23 := htb _ kw_221
  have hf_27 := htb _ kw_222
  have hl := lv_entry ([.ref h0, .ref r1, .ref r2, .ref r3, .ref r4]) (n := 5) (Nat.le_of_ble_eq_true rfl)
  rw [lg_entry_eq]
  generalize (lg_sl ([.ref h0, .ref r1, .ref r2, .ref r3, .ref r4]) ++ List.replicate (5 - (lg_sl ([.ref h0, .ref r1, .ref r2, .ref r3, .ref r4])).length) Slot.unset).toArray = ls at hl ⊢
  have hl : lv_has ls 5 [(0, .ref h0), (1, .ref r1), (2, .ref r2), (3, .ref r3), (4, .ref r4)] := hl
  refine lv_aload_n hx hb dWk_init_0 rfl (lv_at hl 0 rfl) ?_
  refine W.objInit hx hb hown (htb _ kw_218) (htb _ kw_60) (htb _ kw_61) rfl (by rw [hml]; exact hl.1) rfl dWk_init_1 (Nat.le_of_ble_eq_true rfl) (Nat.le_of_ble_eq_true rfl) ?_
  refine W.eq (g2 := F0 m 4 ls []) rfl ?_
  refine lv_aload_n hx hb dWk_init_4 rfl (lv_at hl 0 rfl) ?_
  refine lv_sipush (v := 202) hx hb dWk_init_5 (by decide +kernel) ?_
  refine va_newa (atype := .int) (ty := .int) (a0 := (202, .inl (fun _ => 0))) hx hb (htb _ kwa_I) rfl hK.1 hP hD hS hA (fun _ => rfl) (by decide) (show (202 : Int32).toNatClampNeg = 202 by decide +kernel) (by decide) (show 0 + 1 ≤ 1 from Nat.le_of_ble_eq_true rfl) (show 0 + 202 ≤ 202 from Nat.le_of_ble_eq_true rfl) dWk_init_8 (fun q8 cA H hK1 hP hD hS => ?_)
  obtain rfl := ra_I hK hK1
  have hP : va_P (dC, dI) vwCl [(h0, .inr (6, [.null, .null, .null, .null, .null, .int 0, .int 0])), (q8, .inl (cI, 202, .inl (fun _ => 0)))] H := hP
  have hD : va_D A [(h0, .inr (6, [.null, .null, .null, .null, .null, .int 0, .int 0])), (q8, .inl (cI, 202, .inl (fun _ => 0)))] := hD
  refine W.cs (cells' := 1) (slots' := 202) (by rfl) (by rfl) ?_
  refine va_putF (D := (dC, dI)) (ci := 6) (v := .ref q8) (ty := .array .int) (C := RWk) (T := TWk) (N := 7) hx hb htb in_Wk tyWk tyWk_ok nmWk hown hK.1 hP hD hS 0 rfl rfl 4 (by decide) hf_9 (fun _ h9 => h9) rfl hin rfl (by decide +kernel) rfl rfl (Nat.le_of_ble_eq_true rfl) dWk_init_10 (fun H locs hP hD hS => ?_)
  have hP : va_P (dC, dI) vwCl [(h0, .inr (6, [.null, .null, .null, .null, .ref q8, .int 0, .int 0])), (q8, .inl (cI, 202, .inl (fun _ => 0)))] H := hP
  have hD : va_D A [(h0, .inr (6, [.null, .null, .null, .null, .ref q8, .int 0, .int 0])), (q8, .inl (cI, 202, .inl (fun _ => 0)))] := hD
  refine lv_aload_n hx hb dWk_init_13 rfl (lv_at hl 0 rfl) ?_
  refine lv_aload_n hx hb dWk_init_14 rfl (lv_at hl 1 rfl) ?_
  refine va_putF (D := (dC, dI)) (ci := 6) (v := .ref r1) (ty := .object "ParagraphWalk$Nodes") (C := RWk) (T := TWk) (N := 7) hx hb htb in_Wk tyWk tyWk_ok nmWk hown hK.1 hP hD hS 0 rfl rfl 0 (by decide) hf_15 (fun _ h9 => h9) rfl hin rfl (by decide +kernel) rfl rfl (Nat.le_of_ble_eq_true rfl) dWk_init_15 (fun H locs hP hD hS => ?_)
  have hP : va_P (dC, dI) vwCl [(h0, .inr (6, [.ref r1, .null, .null, .null, .ref q8, .int 0, .int 0])), (q8, .inl (cI, 202, .inl (fun _ => 0)))] H := hP
  have hD : va_D A [(h0, .inr (6, [.ref r1, .null, .null, .null, .ref q8, .int 0, .int 0])), (q8, .inl (cI, 202, .inl (fun _ => 0)))] := hD
  refine lv_aload_n hx hb dWk_init_18 rfl (lv_at hl 0 rfl) ?_
  refine lv_aload_n hx hb dWk_init_19 rfl (lv_at hl 2 rfl) ?_
  refine va_putF (D := (dC, dI)) (ci := 6) (v := .ref r2) (ty := .object "ParagraphWalk$Paragraphs") (C := RWk) (T := TWk) (N := 7) hx hb htb in_Wk tyWk tyWk_ok nmWk hown hK.1 hP hD hS 0 rfl rfl 1 (by decide) hf_19 (fun _ h9 => h9) rfl hin rfl (by decide +kernel) rfl rfl (Nat.le_of_ble_eq_true rfl) dWk_init_20 (fun H locs hP hD hS => ?_)
  have hP : va_P (dC, dI) vwCl [(h0, .inr (6, [.ref r1, .ref r2, .null, .null, .ref q8, .int 0, .int 0])), (q8, .inl (cI, 202, .inl (fun _ => 0)))] H := hP
  have hD : va_D A [(h0, .inr (6, [.ref r1, .ref r2, .null, .null, .ref q8, .int 0, .int 0])), (q8, .inl (cI, 202, .inl (fun _ => 0)))] := hD
  refine lv_aload_n hx hb dWk_init_23 rfl (lv_at hl 0 rfl) ?_
  refine lv_aload_n hx hb dWk_init_24 rfl (lv_at hl 3 rfl) ?_
  refine va_putF (D := (dC, dI)) (ci := 6) (v := .ref r3) (ty := .object "ParagraphWalk$Journey") (C := RWk) (T := TWk) (N := 7) hx hb htb in_Wk tyWk tyWk_ok nmWk hown hK.1 hP hD hS 0 rfl rfl 2 (by decide) hf_23 (fun _ h9 => h9) rfl hin rfl (by decide +kernel) rfl rfl (Nat.le_of_ble_eq_true rfl) dWk_init_25 (fun H locs hP hD hS => ?_)
  have hP : va_P (dC, dI) vwCl [(h0, .inr (6, [.ref r1, .ref r2, .ref r3, .null, .ref q8, .int 0, .int 0])), (q8, .inl (cI, 202, .inl (fun _ => 0)))] H := hP
  have hD : va_D A [(h0, .inr (6, [.ref r1, .ref r2, .ref r3, .null, .ref q8, .int 0, .int 0])), (q8, .inl (cI, 202, .inl (fun _ => 0)))] := hD
  refine lv_aload_n hx hb dWk_init_28 rfl (lv_at hl 0 rfl) ?_
  refine lv_aload hx hb dWk_init_29 (lv_at hl 4 rfl) ?_
  refine va_putF (D := (dC, dI)) (ci := 6) (v := .ref r4) (ty := .object "ParagraphWalk$Stepper") (C := RWk) (T := TWk) (N := 7) hx hb htb in_Wk tyWk tyWk_ok nmWk hown hK.1 hP hD hS 0 rfl rfl 3 (by decide) hf_27 (fun _ h9 => h9) rfl hin rfl (by decide +kernel) rfl rfl (Nat.le_of_ble_eq_true rfl) dWk_init_31 (fun H locs hP hD hS => ?_)
  have hP : va_P (dC, dI) vwCl [(h0, .inr (6, [.ref r1, .ref r2, .ref r3, .ref r4, .ref q8, .int 0, .int 0])), (q8, .inl (cI, 202, .inl (fun _ => 0)))] H := hP
  have hD : va_D A [(h0, .inr (6, [.ref r1, .ref r2, .ref r3, .ref r4, .ref q8, .int 0, .int 0])), (q8, .inl (cI, 202, .inl (fun _ => 0)))] := hD
  have hP9 := hP.sub (ws' := [(h0, .inr (6, [.ref r1, .ref r2, .ref r3, .ref r4, .ref q8, .int 0, .int 0])), (q8, .inl (cI, 202, .inl (fun _ => 0)))]) [0, 1] rfl
  have hD9 := hD.sub (ws' := [(h0, .inr (6, [.ref r1, .ref r2, .ref r3, .ref r4, .ref q8, .int 0, .int 0])), (q8, .inl (cI, 202, .inl (fun _ => 0)))]) [0, 1] (by decide) rfl
  exact W.vret hx hb hr (fun t ht hW => ⟨⟨q8, rfl, trivial, by rw [ht]; exact hP9, hD9⟩, hS.F ht⟩) hS.2.2 dWk_init_34
set_option maxHeartbeats 4000000 in
set_option maxRecDepth 100000 in
theorem met_Nw_init (l : Launch) (dC : Nat → ClassId) (dI : Nat → Nat → Nat) (cI cL cB : ClassId) (sz : Nat) (h0 r1 r2 r3 r4 : Nat) : Met l yNw_init wsNw_init ({ frames := 1, cells := 0, slots := 0, locals := 20 } : Room) (va_Pc [.ref h0, .ref r1, .ref r2, .ref r3, .ref r4] (fun U => U.heap.size = sz ∧ va_P (dC, dI) vwCl [(h0, .inr (2, [.null, .null, .null, .null]))] U.heap ∧ KK dC dI cI cL cB U ∧ va_D (fun _ => True) [(h0, .inr (2, [.null, .null, .null, .null]))])) (va_Qv (fun (_ : Unit) => True) (fun (u : Unit) t => va_P (dC, dI) vwCl [(h0, .inr (2, [.ref r1, .ref r2, .ref r3, .ref r4]))] t.heap ∧ va_D (va_A [(h0, .inr (2, [.null, .null, .null, .null]))] sz) [(h0, .inr (2, [.ref r1, .ref r2, .ref r3, .ref r4]))]) (va_A [(h0, .inr (2, [.null, .null, .null, .null]))] sz)) 0 0 (va_A [(h0, .inr (2, [.null, .null, .null, .null]))] sz) := by
  refine Met.ofW (cc := cNw_init) (maxL := 5) (ret := none) (by decide) rfl ?_
  intro p e s m args below meth c s₁ B hml hv
  obtain ⟨rfl, hsz, hP, hK, hD0⟩ := hv
  have hx := B.exec
  have hb := B.bytes
  have hr := B.returns
  have hts := atoms_spec (ws := wsNw_init) B.pre
  have hown : s.vm.findClass RNw = some m.cls := findClass_of_methodNamed B.named
  have hlocks := B.notSynchronized
  have hin : meth.name = "<init>" := (name_of_methodNamed B.named B.method).1
  subst hsz
  have hD := hD0.self (sz := s.heap.size)
  generalize hAe : va_A [(h0, .inr (2, [.null, .null, .null, .null]))] s.heap.size = A at hD ⊢
  have hA : ∀ q : Nat, s.heap.size ≤ q → A q := fun q h => by rw [← hAe]; exact Or.inr h
  have hS : va_S A s.heap s.heap [] := va_S.rf
  have hP : va_P (dC, dI) vwCl [(h0, .inr (2, [.null, .null, .null, .null]))] s.heap := hP
  have htb : ∀ w ∈ TB, w.before _ s = true := fun w h => hts w (List.mem_cons_of_mem _ h)
  have hf_9 := htb _ kw_247
  have hf_15 := htb _ kw_248
  have hf_19 := htb _ kw_249
  have hf_23 := htb _ kw_250
  have hl := lv_entry ([.ref h0, .ref r1, .ref r2, .ref r3, .ref r4]) (n := 5) (Nat.le_of_ble_eq_true rfl)
  rw [lg_entry_eq]
  generalize (lg_sl ([.ref h0, .ref r1, .ref r2, .ref r3, .ref r4]) ++ List.replicate (5 - (lg_sl ([.ref h0, .ref r1, .ref r2, .ref r3, .ref r4])).length) Slot.unset).toArray = ls at hl ⊢
  have hl : lv_has ls 5 [(0, .ref h0), (1, .ref r1), (2, .ref r2), (3, .ref r3), (4, .ref r4)] := hl
  refine lv_aload_n hx hb dNw_init_0 rfl (lv_at hl 0 rfl) ?_
  refine W.objInit hx hb hown (htb _ kw_246) (htb _ kw_60) (htb _ kw_61) rfl (by rw [hml]; exact hl.1) rfl dNw_init_1 (Nat.le_of_ble_eq_true rfl) (Nat.le_of_ble_eq_true rfl) ?_
  refine W.eq (g2 := F0 m 4 ls []) rfl ?_
  refine lv_aload_n hx hb dNw_init_4 rfl (lv_at hl 0 rfl) ?_
  refine lv_aload_n hx hb dNw_init_5 rfl (lv_at hl 1 rfl) ?_
  refine va_putF (D := (dC, dI)) (ci := 2) (v := .ref r1) (ty := .object "ParagraphWalk$Nodes") (C := RNw) (T := TNw) (N := 4) hx hb htb in_Nw tyNw tyNw_ok nmNw hown hK.1 hP hD hS 0 rfl rfl 0 (by decide) hf_9 (fun _ h9 => h9) rfl hin rfl (by decide +kernel) rfl rfl (Nat.le_of_ble_eq_true rfl) dNw_init_6 (fun H locs hP hD hS => ?_)
  have hP : va_P (dC, dI) vwCl [(h0, .inr (2, [.ref r1, .null, .null, .null]))] H := hP
  have hD : va_D A [(h0, .inr (2, [.ref r1, .null, .null, .null]))] := hD
  refine lv_aload_n hx hb dNw_init_9 rfl (lv_at hl 0 rfl) ?_
  refine lv_aload_n hx hb dNw_init_10 rfl (lv_at hl 2 rfl) ?_
  refine va_putF (D := (dC, dI)) (ci := 2) (v := .ref r2) (ty := .object "ParagraphWalk$Paragraphs") (C := RNw) (T := TNw) (N := 4) hx hb htb in_Nw tyNw tyNw_ok nmNw hown hK.1 hP hD hS 0 rfl rfl 1 (by decide) hf_15 (fun _ h9 => h9) rfl hin rfl (by decide +kernel) rfl rfl (Nat.le_of_ble_eq_true rfl) dNw_init_11 (fun H locs hP hD hS => ?_)
  have hP : va_P (dC, dI) vwCl [(h0, .inr (2, [.ref r1, .ref r2, .null, .null]))] H := hP
  have hD : va_D A [(h0, .inr (2, [.ref r1, .ref r2, .null, .null]))] := hD
  refine lv_aload_n hx hb dNw_init_14 rfl (lv_at hl 0 rfl) ?_
  refine lv_aload_n hx hb dNw_init_15 rfl (lv_at hl 3 rfl) ?_
  refine va_putF (D := (dC, dI)) (ci := 2) (v := .ref r3) (ty := .object "ParagraphWalk$Journey") (C := RNw) (T := TNw) (N := 4) hx hb htb in_Nw tyNw tyNw_ok nmNw hown hK.1 hP hD hS 0 rfl rfl 2 (by decide) hf_19 (fun _ h9 => h9) rfl hin rfl (by decide +kernel) rfl rfl (Nat.le_of_ble_eq_true rfl) dNw_init_16 (fun H locs hP hD hS => ?_)
  have hP : va_P (dC, dI) vwCl [(h0, .inr (2, [.ref r1, .ref r2, .ref r3, .null]))] H := hP
  have hD : va_D A [(h0, .inr (2, [.ref r1, .ref r2, .ref r3, .null]))] := hD
  refine lv_aload_n hx hb dNw_init_19 rfl (lv_at hl 0 rfl) ?_
  refine lv_aload hx hb dNw_init_20 (lv_at hl 4 rfl) ?_
  refine va_putF (D := (dC, dI)) (ci := 2) (v := .ref r4) (ty := .object "ParagraphWalk$Stepper") (C := RNw) (T := TNw) (N := 4) hx hb htb in_Nw tyNw tyNw_ok nmNw hown hK.1 hP hD hS 0 rfl rfl 3 (by decide) hf_23 (fun _ h9 => h9) rfl hin rfl (by decide +kernel) rfl rfl (Nat.le_of_ble_eq_true rfl) dNw_init_22 (fun H locs hP hD hS => ?_)
  have hP : va_P (dC, dI) vwCl [(h0, .inr (2, [.ref r1, .ref r2, .ref r3, .ref r4]))] H := hP
  have hD : va_D A [(h0, .inr (2, [.ref r1, .ref r2, .ref r3, .ref r4]))] := hD
  have hP9 := hP.sub (ws' := [(h0, .inr (2, [.ref r1, .ref r2, .ref r3, .ref r4]))]) [0] rfl
  have hD9 := hD.sub (ws' := [(h0, .inr (2, [.ref r1, .ref r2, .ref r3, .ref r4]))]) [0] (by decide) rfl
  exact W.vret hx hb hr (fun t ht hW => ⟨⟨(), rfl, trivial, by rw [ht]; exact hP9, hD9⟩, hS.F ht⟩) hS.2.2 dNw_init_25
