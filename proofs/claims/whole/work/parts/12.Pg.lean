def wp_Pg_add (post : Int32 → Int32 → (Nat → Int32) → (Nat → Int32) → Prop) (pg_many : Int32) (pR : (Nat → Int32)) (pS : (Nat → Int32)) (a1 : Int32) (a2 : Int32) : Prop := ((a2 < 0 → (post (-4) pg_many pR pS)) ∧ (¬ a2 < 0 → ((a2 ≤ 9 → ((pg_many < 30 → (vp_in (pg_many + 1) 31 ∧ (vp_in (pg_many + 1) 31 ∧ (post (pg_many + 1) (pg_many + 1) (upd pR (pg_many + 1).toNatClampNeg a1) (upd pS (pg_many + 1).toNatClampNeg a2))))) ∧ (¬ pg_many < 30 → (post (-1) pg_many pR pS)))) ∧ (¬ a2 ≤ 9 → (post (-4) pg_many pR pS)))))
set_option maxHeartbeats 4000000 in
set_option maxRecDepth 100000 in
theorem met_Pg_add (l : Launch) (dC : Nat → ClassId) (dI : Nat → Nat → Nat) (cI cL cB : ClassId) (sz : Nat) (h_pg h_pR h_pS : Nat) (pg_many : Int32) (pR : (Nat → Int32)) (pS : (Nat → Int32)) (a1 : Int32) (a2 : Int32) (post : Int32 → Int32 → (Nat → Int32) → (Nat → Int32) → Prop) (hw : wp_Pg_add post pg_many pR pS a1 a2) : Met l yPg_add wsPg_add ({ frames := 0, cells := 0, slots := 0, locals := 0 } : Room) (va_Pc [.ref h_pg, .int a1, .int a2] (fun U => U.heap.size = sz ∧ va_P (dC, dI) vwCl [(h_pg, .inr (4, [.ref h_pR, .ref h_pS, .int pg_many])), (h_pR, .inl (cI, 31, .inl pR)), (h_pS, .inl (cI, 31, .inl pS))] U.heap ∧ KK dC dI cI cL cB U ∧ va_D (fun _ => True) [(h_pg, .inr (4, [.ref h_pR, .ref h_pS, .int pg_many])), (h_pR, .inl (cI, 31, .inl pR)), (h_pS, .inl (cI, 31, .inl pS))])) (va_Qi (fun (r : Int32) (u : Int32 × (Nat → Int32) × (Nat → Int32)) => post r u.1 u.2.1 u.2.2) (fun (u : Int32 × (Nat → Int32) × (Nat → Int32)) t => va_P (dC, dI) vwCl [(h_pg, .inr (4, [.ref h_pR, .ref h_pS, .int u.1])), (h_pR, .inl (cI, 31, .inl u.2.1)), (h_pS, .inl (cI, 31, .inl u.2.2))] t.heap ∧ va_D (va_A [(h_pg, .inr (4, [.ref h_pR, .ref h_pS, .int pg_many])), (h_pR, .inl (cI, 31, .inl pR)), (h_pS, .inl (cI, 31, .inl pS))] sz) [(h_pg, .inr (4, [.ref h_pR, .ref h_pS, .int u.1])), (h_pR, .inl (cI, 31, .inl u.2.1)), (h_pS, .inl (cI, 31, .inl u.2.2))]) (va_A [(h_pg, .inr (4, [.ref h_pR, .ref h_pS, .int pg_many])), (h_pR, .inl (cI, 31, .inl pR)), (h_pS, .inl (cI, 31, .inl pS))] sz)) 0 0 (va_A [(h_pg, .inr (4, [.ref h_pR, .ref h_pS, .int pg_many])), (h_pR, .inl (cI, 31, .inl pR)), (h_pS, .inl (cI, 31, .inl pS))] sz) := by
  refine Met.ofW (cc := cPg_add) (maxL := 3) (ret := (some .int)) (by decide) rfl ?_
  intro p e s m args below meth c s₁ B hml hv
  obtain ⟨rfl, hsz, hP, hK, hD0⟩ := hv
  have hx := B.exec
  have hb := B.bytes
  have hr := B.returns
  have hts := atoms_spec (ws := wsPg_add) B.pre
  have hown : s.vm.findClass RPg = some m.cls := findClass_of_methodNamed B.named
  have hlocks := B.notSynchronized
  subst hsz
  have hD := hD0.self (sz := s.heap.size)
  generalize hAe : va_A [(h_pg, .inr (4, [.ref h_pR, .ref h_pS, .int pg_many])), (h_pR, .inl (cI, 31, .inl pR)), (h_pS, .inl (cI, 31, .inl pS))] s.heap.size = A at hD ⊢
  have hA : ∀ q : Nat, s.heap.size ≤ q → A q := fun q h => by rw [← hAe]; exact Or.inr h
  have hS : va_S A s.heap s.heap [] := va_S.rf
  have hP : va_P (dC, dI) vwCl [(h_pg, .inr (4, [.ref h_pR, .ref h_pS, .int pg_many])), (h_pR, .inl (cI, 31, .inl pR)), (h_pS, .inl (cI, 31, .inl pS))] s.heap := hP
  have htb : ∀ w ∈ TB, w.before _ s = true := fun w h => hts w (List.mem_cons_of_mem _ h)
  have hf_9 := htb _ kw_102
  have hf_15 := htb _ kw_103
  have hf_18 := htb _ kw_104
  have hl := lv_entry ([.ref h_pg, .int a1, .int a2]) (n := 3) (Nat.le_of_ble_eq_true rfl)
  rw [lg_entry_eq]
  generalize (lg_sl ([.ref h_pg, .int a1, .int a2]) ++ List.replicate (3 - (lg_sl ([.ref h_pg, .int a1, .int a2])).length) Slot.unset).toArray = ls at hl ⊢
  have hl : lv_has ls 3 [(0, .ref h_pg), (1, .int a1), (2, .int a2)] := hl
  unfold wp_Pg_add at hw
  refine lv_iload_n hx hb dPg_add_0 rfl (lv_at hl 2 rfl) ?_
  refine lv_if_lt (tgt := 10) hx hb dPg_add_1 (by decide) (fun c_1 => ?_) (fun c_1 => ?_)
  · have hw := hw.1 c_1
    refine lv_bipush (v := (-4)) hx hb dPg_add_10 (by decide +kernel) ?_
    have hP9 := hP.sub (ws' := [(h_pg, .inr (4, [.ref h_pR, .ref h_pS, .int pg_many])), (h_pR, .inl (cI, 31, .inl pR)), (h_pS, .inl (cI, 31, .inl pS))]) [0, 1, 2] rfl
    have hD9 := hD.sub (ws' := [(h_pg, .inr (4, [.ref h_pR, .ref h_pS, .int pg_many])), (h_pR, .inl (cI, 31, .inl pR)), (h_pS, .inl (cI, 31, .inl pS))]) [0, 1, 2] (by decide) rfl
    exact W.iret (v := (-4)) hx hb hr (fun t ht hW => ⟨⟨_, (pg_many, pR, pS), rfl, hw, by rw [ht]; exact hP9, hD9⟩, hS.F ht⟩) hS.2.2 dPg_add_12
  · have hw := hw.2 c_1
    refine lv_iload_n hx hb dPg_add_4 rfl (lv_at hl 2 rfl) ?_
    refine lv_bipush (v := 9) hx hb dPg_add_5 (by decide +kernel) ?_
    refine lv_icmp_le (tgt := 13) hx hb dPg_add_7 (by decide) (fun c_7 => ?_) (fun c_7 => ?_)
    · have hw := hw.1 c_7
      refine lv_aload_n hx hb dPg_add_13 rfl (lv_at hl 0 rfl) ?_
      refine va_get (D := (dC, dI)) (ci := 4) (v := .int pg_many) (C := RPg) (T := TPg) (N := 3) hx hb htb in_Pg hown hK.1 hP 0 rfl rfl 2 (by decide) hf_18 (fun _ h9 => h9) rfl dPg_add_14 ?_
      refine lv_bipush (v := 30) hx hb dPg_add_17 (by decide +kernel) ?_
      refine lv_icmp_lt (tgt := 24) hx hb dPg_add_19 (by decide) (fun c_19 => ?_) (fun c_19 => ?_)
      · have hw := hw.1 c_19
        refine lv_aload_n hx hb dPg_add_24 rfl (lv_at hl 0 rfl) ?_
        refine lv_dup hx hb dPg_add_25 rfl ?_
        refine va_get (D := (dC, dI)) (ci := 4) (v := .int pg_many) (C := RPg) (T := TPg) (N := 3) hx hb htb in_Pg hown hK.1 hP 0 rfl rfl 2 (by decide) hf_18 (fun _ h9 => h9) rfl dPg_add_26 ?_
        refine lv_iconst (v := 1) hx hb dPg_add_29 (by decide) ?_
        refine lv_iadd hx hb dPg_add_30 ?_
        refine va_put (D := (dC, dI)) (ci := 4) (v := .int (pg_many + 1)) (ty := .int) (C := RPg) (T := TPg) (N := 3) hx hb htb in_Pg tyPg tyPg_ok nmPg hown hK.1 hP hD hS 0 rfl rfl 2 (by decide) hf_18 (fun _ h9 => h9) rfl (by decide +kernel) rfl rfl (Nat.le_of_ble_eq_true rfl) dPg_add_31 (fun H locs hP hD hS => ?_)
        have hP : va_P (dC, dI) vwCl [(h_pg, .inr (4, [.ref h_pR, .ref h_pS, .int (pg_many + 1)])), (h_pR, .inl (cI, 31, .inl pR)), (h_pS, .inl (cI, 31, .inl pS))] H := hP
        have hD : va_D A [(h_pg, .inr (4, [.ref h_pR, .ref h_pS, .int (pg_many + 1)])), (h_pR, .inl (cI, 31, .inl pR)), (h_pS, .inl (cI, 31, .inl pS))] := hD
        refine lv_aload_n hx hb dPg_add_34 rfl (lv_at hl 0 rfl) ?_
        refine va_get (D := (dC, dI)) (ci := 4) (v := .ref h_pR) (C := RPg) (T := TPg) (N := 3) hx hb htb in_Pg hown hK.1 hP 0 rfl rfl 0 (by decide) hf_9 (fun _ h9 => h9) rfl dPg_add_35 ?_
        refine lv_aload_n hx hb dPg_add_38 rfl (lv_at hl 0 rfl) ?_
        refine va_get (D := (dC, dI)) (ci := 4) (v := .int (pg_many + 1)) (C := RPg) (T := TPg) (N := 3) hx hb htb in_Pg hown hK.1 hP 0 rfl rfl 2 (by decide) hf_18 (fun _ h9 => h9) rfl dPg_add_39 ?_
        refine lv_iload_n hx hb dPg_add_42 rfl (lv_at hl 1 rfl) ?_
        obtain ⟨hin, hw⟩ := hw
        refine va_iast hx hb hK.1 hP hD hS 1 0 rfl rfl hin dPg_add_43 (fun H locs hP hD hS => ?_)
        have hP : va_P (dC, dI) vwCl [(h_pg, .inr (4, [.ref h_pR, .ref h_pS, .int (pg_many + 1)])), (h_pR, .inl (cI, 31, .inl (upd pR (pg_many + 1).toNatClampNeg a1))), (h_pS, .inl (cI, 31, .inl pS))] H := hP
        have hD : va_D A [(h_pg, .inr (4, [.ref h_pR, .ref h_pS, .int (pg_many + 1)])), (h_pR, .inl (cI, 31, .inl (upd pR (pg_many + 1).toNatClampNeg a1))), (h_pS, .inl (cI, 31, .inl pS))] := hD
        refine lv_aload_n hx hb dPg_add_44 rfl (lv_at hl 0 rfl) ?_
        refine va_get (D := (dC, dI)) (ci := 4) (v := .ref h_pS) (C := RPg) (T := TPg) (N := 3) hx hb htb in_Pg hown hK.1 hP 0 rfl rfl 1 (by decide) hf_15 (fun _ h9 => h9) rfl dPg_add_45 ?_
        refine lv_aload_n hx hb dPg_add_48 rfl (lv_at hl 0 rfl) ?_
        refine va_get (D := (dC, dI)) (ci := 4) (v := .int (pg_many + 1)) (C := RPg) (T := TPg) (N := 3) hx hb htb in_Pg hown hK.1 hP 0 rfl rfl 2 (by decide) hf_18 (fun _ h9 => h9) rfl dPg_add_49 ?_
        refine lv_iload_n hx hb dPg_add_52 rfl (lv_at hl 2 rfl) ?_
        obtain ⟨hin, hw⟩ := hw
        refine va_iast hx hb hK.1 hP hD hS 2 0 rfl rfl hin dPg_add_53 (fun H locs hP hD hS => ?_)
        have hP : va_P (dC, dI) vwCl [(h_pg, .inr (4, [.ref h_pR, .ref h_pS, .int (pg_many + 1)])), (h_pR, .inl (cI, 31, .inl (upd pR (pg_many + 1).toNatClampNeg a1))), (h_pS, .inl (cI, 31, .inl (upd pS (pg_many + 1).toNatClampNeg a2)))] H := hP
        have hD : va_D A [(h_pg, .inr (4, [.ref h_pR, .ref h_pS, .int (pg_many + 1)])), (h_pR, .inl (cI, 31, .inl (upd pR (pg_many + 1).toNatClampNeg a1))), (h_pS, .inl (cI, 31, .inl (upd pS (pg_many + 1).toNatClampNeg a2)))] := hD
        refine lv_aload_n hx hb dPg_add_54 rfl (lv_at hl 0 rfl) ?_
        refine va_get (D := (dC, dI)) (ci := 4) (v := .int (pg_many + 1)) (C := RPg) (T := TPg) (N := 3) hx hb htb in_Pg hown hK.1 hP 0 rfl rfl 2 (by decide) hf_18 (fun _ h9 => h9) rfl dPg_add_55 ?_
        have hP9 := hP.sub (ws' := [(h_pg, .inr (4, [.ref h_pR, .ref h_pS, .int (pg_many + 1)])), (h_pR, .inl (cI, 31, .inl (upd pR (pg_many + 1).toNatClampNeg a1))), (h_pS, .inl (cI, 31, .inl (upd pS (pg_many + 1).toNatClampNeg a2)))]) [0, 1, 2] rfl
        have hD9 := hD.sub (ws' := [(h_pg, .inr (4, [.ref h_pR, .ref h_pS, .int (pg_many + 1)])), (h_pR, .inl (cI, 31, .inl (upd pR (pg_many + 1).toNatClampNeg a1))), (h_pS, .inl (cI, 31, .inl (upd pS (pg_many + 1).toNatClampNeg a2)))]) [0, 1, 2] (by decide) rfl
        exact W.iret (v := (pg_many + 1)) hx hb hr (fun t ht hW => ⟨⟨_, ((pg_many + 1), (upd pR (pg_many + 1).toNatClampNeg a1), (upd pS (pg_many + 1).toNatClampNeg a2)), rfl, hw, by rw [ht]; exact hP9, hD9⟩, hS.F ht⟩) hS.2.2 dPg_add_58
      · have hw := hw.2 c_19
        refine lv_iconst (v := (-1)) hx hb dPg_add_22 (by decide) ?_
        have hP9 := hP.sub (ws' := [(h_pg, .inr (4, [.ref h_pR, .ref h_pS, .int pg_many])), (h_pR, .inl (cI, 31, .inl pR)), (h_pS, .inl (cI, 31, .inl pS))]) [0, 1, 2] rfl
        have hD9 := hD.sub (ws' := [(h_pg, .inr (4, [.ref h_pR, .ref h_pS, .int pg_many])), (h_pR, .inl (cI, 31, .inl pR)), (h_pS, .inl (cI, 31, .inl pS))]) [0, 1, 2] (by decide) rfl
        exact W.iret (v := (-1)) hx hb hr (fun t ht hW => ⟨⟨_, (pg_many, pR, pS), rfl, hw, by rw [ht]; exact hP9, hD9⟩, hS.F ht⟩) hS.2.2 dPg_add_23
    · have hw := hw.2 c_7
      refine lv_bipush (v := (-4)) hx hb dPg_add_10 (by decide +kernel) ?_
      have hP9 := hP.sub (ws' := [(h_pg, .inr (4, [.ref h_pR, .ref h_pS, .int pg_many])), (h_pR, .inl (cI, 31, .inl pR)), (h_pS, .inl (cI, 31, .inl pS))]) [0, 1, 2] rfl
      have hD9 := hD.sub (ws' := [(h_pg, .inr (4, [.ref h_pR, .ref h_pS, .int pg_many])), (h_pR, .inl (cI, 31, .inl pR)), (h_pS, .inl (cI, 31, .inl pS))]) [0, 1, 2] (by decide) rfl
      exact W.iret (v := (-4)) hx hb hr (fun t ht hW => ⟨⟨_, (pg_many, pR, pS), rfl, hw, by rw [ht]; exact hP9, hD9⟩, hS.F ht⟩) hS.2.2 dPg_add_12
def wp_Pg_has (post : Int32 → Prop) (pg_many : Int32) (a1 : Int32) : Prop := ((a1 < 1 → (post 0)) ∧ (¬ a1 < 1 → ((pg_many < a1 → (post 0)) ∧ (¬ pg_many < a1 → (post 1)))))
set_option maxHeartbeats 4000000 in
set_option maxRecDepth 100000 in
theorem met_Pg_has (l : Launch) (dC : Nat → ClassId) (dI : Nat → Nat → Nat) (cI cL cB : ClassId) (h_pg h_pR h_pS : Nat) (pg_many : Int32) (a1 : Int32) (post : Int32 → Prop) (hw : wp_Pg_has post pg_many a1) : Met l yPg_has wsPg_has ({ frames := 0, cells := 0, slots := 0, locals := 0 } : Room) (va_Pc [.ref h_pg, .int a1] (fun U => va_P (dC, dI) vwCl [(h_pg, .inr (4, [.ref h_pR, .ref h_pS, .int pg_many]))] U.heap ∧ KK dC dI cI cL cB U)) (ro_i post) 0 0 (fun _ => False) := by
  refine Met.ofW (cc := cPg_has) (maxL := 2) (ret := (some .boolean)) (by decide) rfl ?_
  intro p e s m args below meth c s₁ B hml hv
  obtain ⟨rfl, hP, hK⟩ := hv
  have hx := B.exec
  have hb := B.bytes
  have hr := B.returns
  have hts := atoms_spec (ws := wsPg_has) B.pre
  have hown : s.vm.findClass RPg = some m.cls := findClass_of_methodNamed B.named
  have hlocks := B.notSynchronized
  have hS : va_S (fun _ => False) s.heap s.heap [] := va_S.rf
  have htb : ∀ w ∈ TB, w.before _ s = true := fun w h => hts w (List.mem_cons_of_mem _ h)
  have hf_18 := htb _ kw_104
  have hl := lv_entry ([.ref h_pg, .int a1]) (n := 2) (Nat.le_of_ble_eq_true rfl)
  rw [lg_entry_eq]
  generalize (lg_sl ([.ref h_pg, .int a1]) ++ List.replicate (2 - (lg_sl ([.ref h_pg, .int a1])).length) Slot.unset).toArray = ls at hl ⊢
  have hl : lv_has ls 2 [(0, .ref h_pg), (1, .int a1)] := hl
  unfold wp_Pg_has at hw
  refine lv_iload_n hx hb dPg_has_0 rfl (lv_at hl 1 rfl) ?_
  refine lv_iconst (v := 1) hx hb dPg_has_1 (by decide) ?_
  refine lv_icmp_lt (tgt := 17) hx hb dPg_has_2 (by decide) (fun c_2 => ?_) (fun c_2 => ?_)
  · have hw := hw.1 c_2
    refine lv_iconst (v := 0) hx hb dPg_has_17 (by decide) ?_
    exact W.zret (v := 0) hx hb hr (by decide) (fun t ht hW => ⟨_, rfl, hw, ht⟩) (fun q h => absurd h List.not_mem_nil) dPg_has_18
  · have hw := hw.2 c_2
    refine lv_iload_n hx hb dPg_has_5 rfl (lv_at hl 1 rfl) ?_
    refine lv_aload_n hx hb dPg_has_6 rfl (lv_at hl 0 rfl) ?_
    refine va_get (D := (dC, dI)) (ci := 4) (v := .int pg_many) (C := RPg) (T := TPg) (N := 3) hx hb htb in_Pg hown hK.1 hP 0 rfl rfl 2 (by decide) hf_18 (fun _ h9 => h9) rfl dPg_has_7 ?_
    refine lv_icmp_gt (tgt := 17) hx hb dPg_has_10 (by decide) (fun c_10 => ?_) (fun c_10 => ?_)
    · have hw := hw.1 c_10
      refine lv_iconst (v := 0) hx hb dPg_has_17 (by decide) ?_
      exact W.zret (v := 0) hx hb hr (by decide) (fun t ht hW => ⟨_, rfl, hw, ht⟩) (fun q h => absurd h List.not_mem_nil) dPg_has_18
    · have hw := hw.2 c_10
      refine lv_iconst (v := 1) hx hb dPg_has_13 (by decide) ?_
      refine lv_goto (tgt := 18) hx hb dPg_has_14 (by decide) ?_
      exact W.zret (v := 1) hx hb hr (by decide) (fun t ht hW => ⟨_, rfl, hw, ht⟩) (fun q h => absurd h List.not_mem_nil) dPg_has_18
def wp_Pg_rootOf (post : Int32 → Prop) (pg_many : Int32) (pR : (Nat → Int32)) (a1 : Int32) : Prop := ((a1 < 1 → (post 0)) ∧ (¬ a1 < 1 → ((pg_many < a1 → (post 0)) ∧ (¬ pg_many < a1 → (vp_in a1 31 ∧ (post (pR a1.toNatClampNeg)))))))
set_option maxHeartbeats 4000000 in
set_option maxRecDepth 100000 in
theorem met_Pg_rootOf (l : Launch) (dC : Nat → ClassId) (dI : Nat → Nat → Nat) (cI cL cB : ClassId) (h_pg h_pR h_pS : Nat) (pg_many : Int32) (pR : (Nat → Int32)) (a1 : Int32) (post : Int32 → Prop) (hw : wp_Pg_rootOf post pg_many pR a1) : Met l yPg_rootOf wsPg_rootOf ({ frames := 0, cells := 0, slots := 0, locals := 0 } : Room) (va_Pc [.ref h_pg, .int a1] (fun U => va_P (dC, dI) vwCl [(h_pg, .inr (4, [.ref h_pR, .ref h_pS, .int pg_many])), (h_pR, .inl (cI, 31, .inl pR))] U.heap ∧ KK dC dI cI cL cB U)) (ro_i post) 0 0 (fun _ => False) := by
  refine Met.ofW (cc := cPg_rootOf) (maxL := 2) (ret := (some .int)) (by decide) rfl ?_
  intro p e s m args below meth c s₁ B hml hv
  obtain ⟨rfl, hP, hK⟩ := hv
  have hx := B.exec
  have hb := B.bytes
  have hr := B.returns
  have hts := atoms_spec (ws := wsPg_rootOf) B.pre
  have hown : s.vm.findClass RPg = some m.cls := findClass_of_methodNamed B.named
  have hlocks := B.notSynchronized
  have hS : va_S (fun _ => False) s.heap s.heap [] := va_S.rf
  have htb : ∀ w ∈ TB, w.before _ s = true := fun w h => hts w (List.mem_cons_of_mem _ h)
  have hf_9 := htb _ kw_102
  have hf_18 := htb _ kw_104
  have hl := lv_entry ([.ref h_pg, .int a1]) (n := 2) (Nat.le_of_ble_eq_true rfl)
  rw [lg_entry_eq]
  generalize (lg_sl ([.ref h_pg, .int a1]) ++ List.replicate (2 - (lg_sl ([.ref h_pg, .int a1])).length) Slot.unset).toArray = ls at hl ⊢
  have hl : lv_has ls 2 [(0, .ref h_pg), (1, .int a1)] := hl
  unfold wp_Pg_rootOf at hw
  refine lv_iload_n hx hb dPg_rootOf_0 rfl (lv_at hl 1 rfl) ?_
  refine lv_iconst (v := 1) hx hb dPg_rootOf_1 (by decide) ?_
  refine lv_icmp_lt (tgt := 22) hx hb dPg_rootOf_2 (by decide) (fun c_2 => ?_) (fun c_2 => ?_)
  · have hw := hw.1 c_2
    refine lv_iconst (v := 0) hx hb dPg_rootOf_22 (by decide) ?_
    exact W.iret (v := 0) hx hb hr (fun t ht hW => ⟨_, rfl, hw, ht⟩) (fun q h => absurd h List.not_mem_nil) dPg_rootOf_23
  · have hw := hw.2 c_2
    refine lv_iload_n hx hb dPg_rootOf_5 rfl (lv_at hl 1 rfl) ?_
    refine lv_aload_n hx hb dPg_rootOf_6 rfl (lv_at hl 0 rfl) ?_
    refine va_get (D := (dC, dI)) (ci := 4) (v := .int pg_many) (C := RPg) (T := TPg) (N := 3) hx hb htb in_Pg hown hK.1 hP 0 rfl rfl 2 (by decide) hf_18 (fun _ h9 => h9) rfl dPg_rootOf_7 ?_
    refine lv_icmp_gt (tgt := 22) hx hb dPg_rootOf_10 (by decide) (fun c_10 => ?_) (fun c_10 => ?_)
    · have hw := hw.1 c_10
      refine lv_iconst (v := 0) hx hb dPg_rootOf_22 (by decide) ?_
      exact W.iret (v := 0) hx hb hr (fun t ht hW => ⟨_, rfl, hw, ht⟩) (fun q h => absurd h List.not_mem_nil) dPg_rootOf_23
    · have hw := hw.2 c_10
      refine lv_aload_n hx hb dPg_rootOf_13 rfl (lv_at hl 0 rfl) ?_
      refine va_get (D := (dC, dI)) (ci := 4) (v := .ref h_pR) (C := RPg) (T := TPg) (N := 3) hx hb htb in_Pg hown hK.1 hP 0 rfl rfl 0 (by decide) hf_9 (fun _ h9 => h9) rfl dPg_rootOf_14 ?_
      refine lv_iload_n hx hb dPg_rootOf_17 rfl (lv_at hl 1 rfl) ?_
      obtain ⟨hin, hw⟩ := hw
      refine va_iald hx hb hK.1 hP 1 0 rfl rfl hin dPg_rootOf_18 ?_
      refine lv_goto (tgt := 23) hx hb dPg_rootOf_19 (by decide) ?_
      exact W.iret (v := (pR a1.toNatClampNeg)) hx hb hr (fun t ht hW => ⟨_, rfl, hw, ht⟩) (fun q h => absurd h List.not_mem_nil) dPg_rootOf_23
def wl_Pg_lastOfSection_16 (post : Int32 → Prop) (pg_many : Int32) (pS : (Nat → Int32)) : Nat → Int32 → Int32 → Int32 → Prop
  | 0, _, _, _ => False
  | n + 1, y1, y2, y3 => ((pg_many < y3 → (post y2)) ∧ (¬ pg_many < y3 → (vp_in y3 31 ∧ (vp_in y1 31 ∧ ((¬ (pS y3.toNatClampNeg) = (pS y1.toNatClampNeg) → (post y2)) ∧ ((pS y3.toNatClampNeg) = (pS y1.toNatClampNeg) → (wl_Pg_lastOfSection_16 post pg_many pS n y1 y3 (y3 + 1))))))))
def wp_Pg_lastOfSection (post : Int32 → Prop) (pg_many : Int32) (pS : (Nat → Int32)) (a1 : Int32) : Prop := (wp_Pg_has (fun (r_2 : Int32) => ((¬ r_2 = 0 → (∃ n : Nat, wl_Pg_lastOfSection_16 post pg_many pS n a1 a1 (a1 + 1))) ∧ (r_2 = 0 → (post a1)))) pg_many a1)
set_option maxHeartbeats 4000000 in
set_option maxRecDepth 100000 in
theorem met_Pg_lastOfSection (l : Launch) (dC : Nat → ClassId) (dI : Nat → Nat → Nat) (cI cL cB : ClassId) (h_pg h_pR h_pS : Nat) (pg_many : Int32) (pS : (Nat → Int32)) (a1 : Int32) (post : Int32 → Prop) (hw : wp_Pg_lastOfSection post pg_many pS a1) : Met l yPg_lastOfSection wsPg_lastOfSection ({ frames := 1, cells := 0, slots := 0, locals := 21 } : Room) (va_Pc [.ref h_pg, .int a1] (fun U => va_P (dC, dI) vwCl [(h_pg, .inr (4, [.ref h_pR, .ref h_pS, .int pg_many])), (h_pS, .inl (cI, 31, .inl pS))] U.heap ∧ KK dC dI cI cL cB U)) (ro_i post) 0 0 (fun _ => False) := by
  refine Met.ofW (cc := cPg_lastOfSection) (maxL := 4) (ret := (some .int)) (by decide) rfl ?_
  intro p e s m args below meth c s₁ B hml hv
  obtain ⟨rfl, hP, hK⟩ := hv
  have hx := B.exec
  have hb := B.bytes
  have hr := B.returns
  have hts := atoms_spec (ws := wsPg_lastOfSection) B.pre
  have hown : s.vm.findClass RPg = some m.cls := findClass_of_methodNamed B.named
  have hlocks := B.notSynchronized
  have hS : va_S (fun _ => False) s.heap s.heap [] := va_S.rf
  obtain ⟨Q, hQ⟩ : ∃ Q : State → Prop, Q = MQ below (ro_i post) ([.ref h_pg, .int a1] : List Value).toArray s 0 0 (fun _ => False) := ⟨_, rfl⟩
  rw [← hQ]
  have htb : ∀ w ∈ TB, w.before _ s = true := fun w h => hts w (List.mem_cons_of_mem _ h)
  have hf_15 := htb _ kw_103
  have hf_18 := htb _ kw_104
  have lp_16 : ∀ (n : Nat) (y1 : Int32) (y2 : Int32) (y3 : Int32), wl_Pg_lastOfSection_16 post pg_many pS n y1 y2 y3 → ∀ (ls : Array Slot), lv_has ls 4 [(0, .ref h_pg), (1, .int y1), (2, .int y2), (3, .int y3)] → W p l e (headSpec wsPg_lastOfSection ({ frames := 1, cells := 0, slots := 0, locals := 21 } : Room)).room s m ([.ref h_pg, .int a1] : List Value).toArray below meth c s.heap [] 0 0 Q (F0 m 16 ls []) := by
    intro n
    induction n with
    | zero => intro y1 y2 y3 hw; exact absurd hw id
    | succ n ih =>
      intro y1 y2 y3 hw ls hl
      refine lv_iload_n hx hb dPg_lastOfSection_16 rfl (lv_at hl 3 rfl) ?_
      refine lv_aload_n hx hb dPg_lastOfSection_17 rfl (lv_at hl 0 rfl) ?_
      refine va_get (D := (dC, dI)) (ci := 4) (v := .int pg_many) (C := RPg) (T := TPg) (N := 3) hx hb htb in_Pg hown hK.1 hP 0 rfl rfl 2 (by decide) hf_18 (fun _ h9 => h9) rfl dPg_lastOfSection_18 ?_
      refine lv_icmp_gt (tgt := 47) hx hb dPg_lastOfSection_21 (by decide) (fun c_21 => ?_) (fun c_21 => ?_)
      · have hw := hw.1 c_21
        refine lv_iload_n hx hb dPg_lastOfSection_47 rfl (lv_at hl 2 rfl) ?_
        rw [hQ]
        exact W.iret (v := y2) hx hb hr (fun t ht hW => ⟨_, rfl, hw, ht⟩) (fun q h => absurd h List.not_mem_nil) dPg_lastOfSection_48
      · have hw := hw.2 c_21
        refine lv_aload_n hx hb dPg_lastOfSection_24 rfl (lv_at hl 0 rfl) ?_
        refine va_get (D := (dC, dI)) (ci := 4) (v := .ref h_pS) (C := RPg) (T := TPg) (N := 3) hx hb htb in_Pg hown hK.1 hP 0 rfl rfl 1 (by decide) hf_15 (fun _ h9 => h9) rfl dPg_lastOfSection_25 ?_
        refine lv_iload_n hx hb dPg_lastOfSection_28 rfl (lv_at hl 3 rfl) ?_
        obtain ⟨hin, hw⟩ := hw
        refine va_iald hx hb hK.1 hP 1 0 rfl rfl hin dPg_lastOfSection_29 ?_
        refine lv_aload_n hx hb dPg_lastOfSection_30 rfl (lv_at hl 0 rfl) ?_
        refine va_get (D := (dC, dI)) (ci := 4) (v := .ref h_pS) (C := RPg) (T := TPg) (N := 3) hx hb htb in_Pg hown hK.1 hP 0 rfl rfl 1 (by decide) hf_15 (fun _ h9 => h9) rfl dPg_lastOfSection_31 ?_
        refine lv_iload_n hx hb dPg_lastOfSection_34 rfl (lv_at hl 1 rfl) ?_
        obtain ⟨hin, hw⟩ := hw
        refine va_iald hx hb hK.1 hP 1 0 rfl rfl hin dPg_lastOfSection_35 ?_
        refine lv_icmp_ne (tgt := 47) hx hb dPg_lastOfSection_36 (by decide) (fun c_36 => ?_) (fun c_36 => ?_)
        · have hw := hw.1 c_36
          refine lv_iload_n hx hb dPg_lastOfSection_47 rfl (lv_at hl 2 rfl) ?_
          rw [hQ]
          exact W.iret (v := y2) hx hb hr (fun t ht hW => ⟨_, rfl, hw, ht⟩) (fun q h => absurd h List.not_mem_nil) dPg_lastOfSection_48
        · have hw := hw.2 c_36
          refine lv_iload_n hx hb dPg_lastOfSection_39 rfl (lv_at hl 3 rfl) ?_
          refine lv_istore_n (lv' := [(2, .int y3), (0, .ref h_pg), (1, .int y1), (3, .int y3)]) hx hb dPg_lastOfSection_40 rfl hl (by decide) rfl (fun ls hl => ?_)
          refine lv_iinc (v := (y3 + 1)) (lv' := [(3, .int (y3 + 1)), (2, .int y3), (0, .ref h_pg), (1, .int y1)]) hx hb dPg_lastOfSection_41 hl (k := 3) rfl rfl (by decide) rfl (fun ls hl => ?_)
          refine lv_goto (tgt := 16) hx hb dPg_lastOfSection_44 (by decide) ?_
          exact ih y1 y3 (y3 + 1) hw ls (lv_sub hl [2, 3, 1, 0] rfl)
  have hl := lv_entry ([.ref h_pg, .int a1]) (n := 4) (Nat.le_of_ble_eq_true rfl)
  rw [lg_entry_eq]
  generalize (lg_sl ([.ref h_pg, .int a1]) ++ List.replicate (4 - (lg_sl ([.ref h_pg, .int a1])).length) Slot.unset).toArray = ls at hl ⊢
  have hl : lv_has ls 4 [(0, .ref h_pg), (1, .int a1)] := hl
  unfold wp_Pg_lastOfSection at hw
  refine lv_aload_n hx hb dPg_lastOfSection_0 rfl (lv_at hl 0 rfl) ?_
  refine lv_iload_n hx hb dPg_lastOfSection_1 rfl (lv_at hl 1 rfl) ?_
  have hPc := hP.sub (ws' := [(h_pg, .inr (4, [.ref h_pR, .ref h_pS, .int pg_many]))]) [0] rfl
  refine ro_ci (va_runV (As := [.int a1]) (rest := []) ⟨hx, hb, hml, hown, htb⟩ (met_Pg_has l dC dI cI cL cB h_pg h_pR h_pS pg_many a1 _ hw) (cwV 1 htb (gdV kw_494 kw_380 kw_381 kw_41 kw_382) rfl rfl rfl (by decide +kernel) ⟨Nat.le_of_ble_eq_true rfl, Nat.le_of_ble_eq_true rfl⟩) ⟨fun a U g mk q => by obtain ⟨q0, qP, qK⟩ := q; exact ⟨q0, qP, KK_c qK⟩, va_recv hK.1 hP (ci := 4) (q0 := 0) rfl rfl, fun U hU hW => ⟨rfl, by rw [hU]; exact hPc, KK_w hW hK⟩⟩ rfl rfl hl.1 rfl (lv_room (Nat.le_of_ble_eq_true rfl)) dPg_lastOfSection_2 ⟨Nat.zero_le _, Nat.zero_le _⟩) (fun r_2 hw => ?_)
  try dsimp only at hw
  refine lv_if_ne (tgt := 10) hx hb dPg_lastOfSection_5 (by decide) (fun c_5 => ?_) (fun c_5 => ?_)
  · have hw := hw.1 c_5
    refine lv_iload_n hx hb dPg_lastOfSection_10 rfl (lv_at hl 1 rfl) ?_
    refine lv_istore_n (lv' := [(2, .int a1), (0, .ref h_pg), (1, .int a1)]) hx hb dPg_lastOfSection_11 rfl hl (by decide) rfl (fun ls hl => ?_)
    refine lv_iload_n hx hb dPg_lastOfSection_12 rfl (lv_at hl 2 rfl) ?_
    refine lv_iconst (v := 1) hx hb dPg_lastOfSection_13 (by decide) ?_
    refine lv_iadd hx hb dPg_lastOfSection_14 ?_
    refine lv_istore_n (lv' := [(3, .int (a1 + 1)), (2, .int a1), (0, .ref h_pg), (1, .int a1)]) hx hb dPg_lastOfSection_15 rfl hl (by decide) rfl (fun ls hl => ?_)
    obtain ⟨n9, hw⟩ := hw
    exact lp_16 n9 a1 a1 (a1 + 1) hw ls (lv_sub hl [2, 3, 1, 0] rfl)
  · have hw := hw.2 c_5
    refine lv_iload_n hx hb dPg_lastOfSection_8 rfl (lv_at hl 1 rfl) ?_
    rw [hQ]
    exact W.iret (v := a1) hx hb hr (fun t ht hW => ⟨_, rfl, hw, ht⟩) (fun q h => absurd h List.not_mem_nil) dPg_lastOfSection_9
