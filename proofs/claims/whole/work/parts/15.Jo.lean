def wp_Jo_goFurther (post : Int32 → Int32 → Int32 → Prop) (jo_steps : Int32) (jo_left : Int32) (jo_end : Int32) (jo_place : Int32) (jo_raised : Int32) (jo_result : Int64) (a1 : Int32) : Prop := (post a1 3 0)
set_option maxHeartbeats 4000000 in
set_option maxRecDepth 100000 in
theorem met_Jo_goFurther (l : Launch) (dC : Nat → ClassId) (dI : Nat → Nat → Nat) (cI cL cB : ClassId) (sz : Nat) (h_jo h_jB : Nat) (jo_steps : Int32) (jo_left : Int32) (jo_end : Int32) (jo_place : Int32) (jo_raised : Int32) (jo_result : Int64) (a1 : Int32) (post : Int32 → Int32 → Int32 → Prop) (hw : wp_Jo_goFurther post jo_steps jo_left jo_end jo_place jo_raised jo_result a1) : Met l yJo_goFurther wsJo_goFurther ({ frames := 0, cells := 0, slots := 0, locals := 0 } : Room) (va_Pc [.ref h_jo, .int a1] (fun U => U.heap.size = sz ∧ va_P (dC, dI) vwCl [(h_jo, .inr (1, [.ref h_jB, .int jo_steps, .int jo_left, .int jo_end, .int jo_place, .int jo_raised, .long jo_result]))] U.heap ∧ KK dC dI cI cL cB U ∧ va_D (fun _ => True) [(h_jo, .inr (1, [.ref h_jB, .int jo_steps, .int jo_left, .int jo_end, .int jo_place, .int jo_raised, .long jo_result]))])) (va_Qv (fun (u : Int32 × Int32 × Int32) => post u.1 u.2.1 u.2.2) (fun (u : Int32 × Int32 × Int32) t => va_P (dC, dI) vwCl [(h_jo, .inr (1, [.ref h_jB, .int jo_steps, .int u.1, .int u.2.1, .int u.2.2, .int jo_raised, .long jo_result]))] t.heap ∧ va_D (va_A [(h_jo, .inr (1, [.ref h_jB, .int jo_steps, .int jo_left, .int jo_end, .int jo_place, .int jo_raised, .long jo_result]))] sz) [(h_jo, .inr (1, [.ref h_jB, .int jo_steps, .int u.1, .int u.2.1, .int u.2.2, .int jo_raised, .long jo_result]))]) (va_A [(h_jo, .inr (1, [.ref h_jB, .int jo_steps, .int jo_left, .int jo_end, .int jo_place, .int jo_raised, .long jo_result]))] sz)) 0 0 (va_A [(h_jo, .inr (1, [.ref h_jB, .int jo_steps, .int jo_left, .int jo_end, .int jo_place, .int jo_raised, .long jo_result]))] sz) := by
  refine Met.ofW (cc := cJo_goFurther) (maxL := 2) (ret := none) (by decide) rfl ?_
  intro p e s m args below meth c s₁ B hml hv
  obtain ⟨rfl, hsz, hP, hK, hD0⟩ := hv
  have hx := B.exec
  have hb := B.bytes
  have hr := B.returns
  have hts := atoms_spec (ws := wsJo_goFurther) B.pre
  have hown : s.vm.findClass RJo = some m.cls := findClass_of_methodNamed B.named
  have hlocks := B.notSynchronized
  subst hsz
  have hD := hD0.self (sz := s.heap.size)
  generalize hAe : va_A [(h_jo, .inr (1, [.ref h_jB, .int jo_steps, .int jo_left, .int jo_end, .int jo_place, .int jo_raised, .long jo_result]))] s.heap.size = A at hD ⊢
  have hA : ∀ q : Nat, s.heap.size ≤ q → A q := fun q h => by rw [← hAe]; exact Or.inr h
  have hS : va_S A s.heap s.heap [] := va_S.rf
  have hP : va_P (dC, dI) vwCl [(h_jo, .inr (1, [.ref h_jB, .int jo_steps, .int jo_left, .int jo_end, .int jo_place, .int jo_raised, .long jo_result]))] s.heap := hP
  have htb : ∀ w ∈ TB, w.before _ s = true := fun w h => hts w (List.mem_cons_of_mem _ h)
  have hf_15 := htb _ kw_158
  have hf_29 := htb _ kw_157
  have hf_32 := htb _ kw_162
  have hl := lv_entry ([.ref h_jo, .int a1]) (n := 2) (Nat.le_of_ble_eq_true rfl)
  rw [lg_entry_eq]
  generalize (lg_sl ([.ref h_jo, .int a1]) ++ List.replicate (2 - (lg_sl ([.ref h_jo, .int a1])).length) Slot.unset).toArray = ls at hl ⊢
  have hl : lv_has ls 2 [(0, .ref h_jo), (1, .int a1)] := hl
  unfold wp_Jo_goFurther at hw
  refine lv_aload_n hx hb dJo_goFurther_0 rfl (lv_at hl 0 rfl) ?_
  refine lv_iload_n hx hb dJo_goFurther_1 rfl (lv_at hl 1 rfl) ?_
  refine va_put (D := (dC, dI)) (ci := 1) (v := .int a1) (ty := .int) (C := RJo) (T := TJo) (N := 7) hx hb htb in_Jo tyJo tyJo_ok nmJo hown hK.1 hP hD hS 0 rfl rfl 2 (by decide) hf_29 (fun _ h9 => h9) rfl (by decide +kernel) rfl rfl (Nat.le_of_ble_eq_true rfl) dJo_goFurther_2 (fun H locs hP hD hS => ?_)
  have hP : va_P (dC, dI) vwCl [(h_jo, .inr (1, [.ref h_jB, .int jo_steps, .int a1, .int jo_end, .int jo_place, .int jo_raised, .long jo_result]))] H := hP
  have hD : va_D A [(h_jo, .inr (1, [.ref h_jB, .int jo_steps, .int a1, .int jo_end, .int jo_place, .int jo_raised, .long jo_result]))] := hD
  refine lv_aload_n hx hb dJo_goFurther_5 rfl (lv_at hl 0 rfl) ?_
  refine lv_iconst (v := 0) hx hb dJo_goFurther_6 (by decide) ?_
  refine va_put (D := (dC, dI)) (ci := 1) (v := .int 0) (ty := .int) (C := RJo) (T := TJo) (N := 7) hx hb htb in_Jo tyJo tyJo_ok nmJo hown hK.1 hP hD hS 0 rfl rfl 4 (by decide) hf_32 (fun _ h9 => h9) rfl (by decide +kernel) rfl rfl (Nat.le_of_ble_eq_true rfl) dJo_goFurther_7 (fun H locs hP hD hS => ?_)
  have hP : va_P (dC, dI) vwCl [(h_jo, .inr (1, [.ref h_jB, .int jo_steps, .int a1, .int jo_end, .int 0, .int jo_raised, .long jo_result]))] H := hP
  have hD : va_D A [(h_jo, .inr (1, [.ref h_jB, .int jo_steps, .int a1, .int jo_end, .int 0, .int jo_raised, .long jo_result]))] := hD
  refine lv_aload_n hx hb dJo_goFurther_10 rfl (lv_at hl 0 rfl) ?_
  refine lv_iconst (v := 3) hx hb dJo_goFurther_11 (by decide) ?_
  refine va_put (D := (dC, dI)) (ci := 1) (v := .int 3) (ty := .int) (C := RJo) (T := TJo) (N := 7) hx hb htb in_Jo tyJo tyJo_ok nmJo hown hK.1 hP hD hS 0 rfl rfl 3 (by decide) hf_15 (fun _ h9 => h9) rfl (by decide +kernel) rfl rfl (Nat.le_of_ble_eq_true rfl) dJo_goFurther_12 (fun H locs hP hD hS => ?_)
  have hP : va_P (dC, dI) vwCl [(h_jo, .inr (1, [.ref h_jB, .int jo_steps, .int a1, .int 3, .int 0, .int jo_raised, .long jo_result]))] H := hP
  have hD : va_D A [(h_jo, .inr (1, [.ref h_jB, .int jo_steps, .int a1, .int 3, .int 0, .int jo_raised, .long jo_result]))] := hD
  have hP9 := hP.sub (ws' := [(h_jo, .inr (1, [.ref h_jB, .int jo_steps, .int a1, .int 3, .int 0, .int jo_raised, .long jo_result]))]) [0] rfl
  have hD9 := hD.sub (ws' := [(h_jo, .inr (1, [.ref h_jB, .int jo_steps, .int a1, .int 3, .int 0, .int jo_raised, .long jo_result]))]) [0] (by decide) rfl
  exact W.vret hx hb hr (fun t ht hW => ⟨⟨(a1, 3, 0), rfl, hw, by rw [ht]; exact hP9, hD9⟩, hS.F ht⟩) hS.2.2 dJo_goFurther_15
def wp_Jo_start (post : Int32 → Int32 → Int32 → Int32 → Int32 → Prop) (jo_steps : Int32) (jo_left : Int32) (jo_end : Int32) (jo_place : Int32) (jo_raised : Int32) (jo_result : Int64) (a1 : Int32) : Prop := (wp_Jo_goFurther (fun (jo_left_12 : Int32) (jo_end_12 : Int32) (jo_place_12 : Int32) => (post 0 jo_left_12 jo_end_12 jo_place_12 0)) 0 jo_left jo_end jo_place 0 jo_result a1)
set_option maxHeartbeats 4000000 in
set_option maxRecDepth 100000 in
theorem met_Jo_start (l : Launch) (dC : Nat → ClassId) (dI : Nat → Nat → Nat) (cI cL cB : ClassId) (sz : Nat) (h_jo h_jB : Nat) (jo_steps : Int32) (jo_left : Int32) (jo_end : Int32) (jo_place : Int32) (jo_raised : Int32) (jo_result : Int64) (a1 : Int32) (post : Int32 → Int32 → Int32 → Int32 → Int32 → Prop) (hw : wp_Jo_start post jo_steps jo_left jo_end jo_place jo_raised jo_result a1) : Met l yJo_start wsJo_start ({ frames := 1, cells := 0, slots := 0, locals := 21 } : Room) (va_Pc [.ref h_jo, .int a1] (fun U => U.heap.size = sz ∧ va_P (dC, dI) vwCl [(h_jo, .inr (1, [.ref h_jB, .int jo_steps, .int jo_left, .int jo_end, .int jo_place, .int jo_raised, .long jo_result]))] U.heap ∧ KK dC dI cI cL cB U ∧ va_D (fun _ => True) [(h_jo, .inr (1, [.ref h_jB, .int jo_steps, .int jo_left, .int jo_end, .int jo_place, .int jo_raised, .long jo_result]))])) (va_Qv (fun (u : Int32 × Int32 × Int32 × Int32 × Int32) => post u.1 u.2.1 u.2.2.1 u.2.2.2.1 u.2.2.2.2) (fun (u : Int32 × Int32 × Int32 × Int32 × Int32) t => va_P (dC, dI) vwCl [(h_jo, .inr (1, [.ref h_jB, .int u.1, .int u.2.1, .int u.2.2.1, .int u.2.2.2.1, .int u.2.2.2.2, .long jo_result]))] t.heap ∧ va_D (va_A [(h_jo, .inr (1, [.ref h_jB, .int jo_steps, .int jo_left, .int jo_end, .int jo_place, .int jo_raised, .long jo_result]))] sz) [(h_jo, .inr (1, [.ref h_jB, .int u.1, .int u.2.1, .int u.2.2.1, .int u.2.2.2.1, .int u.2.2.2.2, .long jo_result]))]) (va_A [(h_jo, .inr (1, [.ref h_jB, .int jo_steps, .int jo_left, .int jo_end, .int jo_place, .int jo_raised, .long jo_result]))] sz)) 0 0 (va_A [(h_jo, .inr (1, [.ref h_jB, .int jo_steps, .int jo_left, .int jo_end, .int jo_place, .int jo_raised, .long jo_result]))] sz) := by
  refine Met.ofW (cc := cJo_start) (maxL := 2) (ret := none) (by decide) rfl ?_
  intro p e s m args below meth c s₁ B hml hv
  obtain ⟨rfl, hsz, hP, hK, hD0⟩ := hv
  have hx := B.exec
  have hb := B.bytes
  have hr := B.returns
  have hts := atoms_spec (ws := wsJo_start) B.pre
  have hown : s.vm.findClass RJo = some m.cls := findClass_of_methodNamed B.named
  have hlocks := B.notSynchronized
  subst hsz
  have hD := hD0.self (sz := s.heap.size)
  generalize hAe : va_A [(h_jo, .inr (1, [.ref h_jB, .int jo_steps, .int jo_left, .int jo_end, .int jo_place, .int jo_raised, .long jo_result]))] s.heap.size = A at hD ⊢
  have hA : ∀ q : Nat, s.heap.size ≤ q → A q := fun q h => by rw [← hAe]; exact Or.inr h
  have hS : va_S A s.heap s.heap [] := va_S.rf
  have hP : va_P (dC, dI) vwCl [(h_jo, .inr (1, [.ref h_jB, .int jo_steps, .int jo_left, .int jo_end, .int jo_place, .int jo_raised, .long jo_result]))] s.heap := hP
  have htb : ∀ w ∈ TB, w.before _ s = true := fun w h => hts w (List.mem_cons_of_mem _ h)
  have hf_19 := htb _ kw_155
  have hf_22 := htb _ kw_164
  have hl := lv_entry ([.ref h_jo, .int a1]) (n := 2) (Nat.le_of_ble_eq_true rfl)
  rw [lg_entry_eq]
  generalize (lg_sl ([.ref h_jo, .int a1]) ++ List.replicate (2 - (lg_sl ([.ref h_jo, .int a1])).length) Slot.unset).toArray = ls at hl ⊢
  have hl : lv_has ls 2 [(0, .ref h_jo), (1, .int a1)] := hl
  unfold wp_Jo_start at hw
  refine lv_aload_n hx hb dJo_start_0 rfl (lv_at hl 0 rfl) ?_
  refine lv_iconst (v := 0) hx hb dJo_start_1 (by decide) ?_
  refine va_put (D := (dC, dI)) (ci := 1) (v := .int 0) (ty := .int) (C := RJo) (T := TJo) (N := 7) hx hb htb in_Jo tyJo tyJo_ok nmJo hown hK.1 hP hD hS 0 rfl rfl 1 (by decide) hf_19 (fun _ h9 => h9) rfl (by decide +kernel) rfl rfl (Nat.le_of_ble_eq_true rfl) dJo_start_2 (fun H locs hP hD hS => ?_)
  have hP : va_P (dC, dI) vwCl [(h_jo, .inr (1, [.ref h_jB, .int 0, .int jo_left, .int jo_end, .int jo_place, .int jo_raised, .long jo_result]))] H := hP
  have hD : va_D A [(h_jo, .inr (1, [.ref h_jB, .int 0, .int jo_left, .int jo_end, .int jo_place, .int jo_raised, .long jo_result]))] := hD
  refine lv_aload_n hx hb dJo_start_5 rfl (lv_at hl 0 rfl) ?_
  refine lv_iconst (v := 0) hx hb dJo_start_6 (by decide) ?_
  refine va_put (D := (dC, dI)) (ci := 1) (v := .int 0) (ty := .int) (C := RJo) (T := TJo) (N := 7) hx hb htb in_Jo tyJo tyJo_ok nmJo hown hK.1 hP hD hS 0 rfl rfl 5 (by decide) hf_22 (fun _ h9 => h9) rfl (by decide +kernel) rfl rfl (Nat.le_of_ble_eq_true rfl) dJo_start_7 (fun H locs hP hD hS => ?_)
  have hP : va_P (dC, dI) vwCl [(h_jo, .inr (1, [.ref h_jB, .int 0, .int jo_left, .int jo_end, .int jo_place, .int 0, .long jo_result]))] H := hP
  have hD : va_D A [(h_jo, .inr (1, [.ref h_jB, .int 0, .int jo_left, .int jo_end, .int jo_place, .int 0, .long jo_result]))] := hD
  refine lv_aload_n hx hb dJo_start_10 rfl (lv_at hl 0 rfl) ?_
  refine lv_iload_n hx hb dJo_start_11 rfl (lv_at hl 1 rfl) ?_
  have hPc := hP.sub (ws' := [(h_jo, .inr (1, [.ref h_jB, .int 0, .int jo_left, .int jo_end, .int jo_place, .int 0, .long jo_result]))]) [0] rfl
  have hDc := hD.sub (ws' := [(h_jo, .inr (1, [.ref h_jB, .int 0, .int jo_left, .int jo_end, .int jo_place, .int 0, .long jo_result]))]) [0] (by decide) rfl
  have hFc := va_free (wc := [(h_jo, .inr (1, [.ref h_jB, .int 0, .int jo_left, .int jo_end, .int jo_place, .int 0, .long jo_result]))]) hD hS hA [0] rfl
  refine va_callv (va_runV (As := [.int a1]) (rest := []) ⟨hx, hb, hml, hown, htb⟩ (met_Jo_goFurther l dC dI cI cL cB H.size h_jo h_jB 0 jo_left jo_end jo_place 0 jo_result a1 _ hw) (cwV 1 htb (gdV kw_387 kw_388 kw_389 kw_44 kw_390) rfl rfl rfl (by decide +kernel) ⟨Nat.le_of_ble_eq_true rfl, Nat.le_of_ble_eq_true rfl⟩) ⟨fun a U g mk q => by obtain ⟨q0, q1, qP, qK, qD⟩ := q; exact ⟨q0, q1, qP, KK_c qK, qD⟩, va_recv hK.1 hP (ci := 1) (q0 := 0) rfl rfl, fun U hU hW => ⟨rfl, by rw [hU], by rw [hU]; exact hPc, KK_w hW hK, hDc.weaken (fun _ _ _ _ => trivial)⟩⟩ rfl rfl hl.1 rfl (lv_room (Nat.le_of_ble_eq_true rfl)) dJo_start_12 ⟨Nat.zero_le _, Nat.zero_le _⟩) hS (fun q _ h => hFc q h) hFc (fun u t H1 locs ht hvm hw hB hz1 hk1 hS => ?_)
  obtain ⟨jo_left_12, jo_end_12, jo_place_12⟩ := u
  obtain ⟨hP1, hD1⟩ := hB
  rw [ht] at hP1
  try dsimp only at hw
  obtain ⟨hP, hD⟩ := va_join (wr := []) (w1 := [(h_jo, .inr (1, [.ref h_jB, .int 0, .int jo_left_12, .int jo_end_12, .int jo_place_12, .int 0, .long jo_result]))]) hP hD [0] [] rfl rfl (by decide) (by decide) hk1 hFc hP1 hD1
  generalize H1 = H at hP hS ⊢
  have hP : va_P (dC, dI) vwCl [(h_jo, .inr (1, [.ref h_jB, .int 0, .int jo_left_12, .int jo_end_12, .int jo_place_12, .int 0, .long jo_result]))] H := hP
  have hD : va_D A [(h_jo, .inr (1, [.ref h_jB, .int 0, .int jo_left_12, .int jo_end_12, .int jo_place_12, .int 0, .long jo_result]))] := hD
  have hP9 := hP.sub (ws' := [(h_jo, .inr (1, [.ref h_jB, .int 0, .int jo_left_12, .int jo_end_12, .int jo_place_12, .int 0, .long jo_result]))]) [0] rfl
  have hD9 := hD.sub (ws' := [(h_jo, .inr (1, [.ref h_jB, .int 0, .int jo_left_12, .int jo_end_12, .int jo_place_12, .int 0, .long jo_result]))]) [0] (by decide) rfl
  exact W.vret hx hb hr (fun t ht hW => ⟨⟨(0, jo_left_12, jo_end_12, jo_place_12, 0), rfl, hw, by rw [ht]; exact hP9, hD9⟩, hS.F ht⟩) hS.2.2 dJo_start_15
def wp_Jo_begins (post : Int32 → Int32 → Int32 → Int32 → Int32 → (Nat → Int32) → Prop) (jo_steps : Int32) (jo_left : Int32) (jo_end : Int32) (jo_place : Int32) (jo_raised : Int32) (jo_result : Int64) (jB : (Nat → Int32)) (a1 : Int32) : Prop := ((0 < jo_left → ((jo_steps < 0 → (post 1 (jo_steps + 1) (jo_left - 1) jo_end jo_place jB)) ∧ (¬ jo_steps < 0 → ((1000 ≤ jo_steps → (post 1 (jo_steps + 1) (jo_left - 1) jo_end jo_place jB)) ∧ (¬ 1000 ≤ jo_steps → (vp_in jo_steps 1000 ∧ (post 1 (jo_steps + 1) (jo_left - 1) jo_end jo_place (upd jB jo_steps.toNatClampNeg a1)))))))) ∧ (¬ 0 < jo_left → (post 0 jo_steps jo_left 0 a1 jB)))
set_option maxHeartbeats 4000000 in
set_option maxRecDepth 100000 in
theorem met_Jo_begins (l : Launch) (dC : Nat → ClassId) (dI : Nat → Nat → Nat) (cI cL cB : ClassId) (sz : Nat) (h_jo h_jB : Nat) (jo_steps : Int32) (jo_left : Int32) (jo_end : Int32) (jo_place : Int32) (jo_raised : Int32) (jo_result : Int64) (jB : (Nat → Int32)) (a1 : Int32) (post : Int32 → Int32 → Int32 → Int32 → Int32 → (Nat → Int32) → Prop) (hw : wp_Jo_begins post jo_steps jo_left jo_end jo_place jo_raised jo_result jB a1) : Met l yJo_begins wsJo_begins ({ frames := 0, cells := 0, slots := 0, locals := 0 } : Room) (va_Pc [.ref h_jo, .int a1] (fun U => U.heap.size = sz ∧ va_P (dC, dI) vwCl [(h_jo, .inr (1, [.ref h_jB, .int jo_steps, .int jo_left, .int jo_end, .int jo_place, .int jo_raised, .long jo_result])), (h_jB, .inl (cI, 1000, .inl jB))] U.heap ∧ KK dC dI cI cL cB U ∧ va_D (fun _ => True) [(h_jo, .inr (1, [.ref h_jB, .int jo_steps, .int jo_left, .int jo_end, .int jo_place, .int jo_raised, .long jo_result])), (h_jB, .inl (cI, 1000, .inl jB))])) (va_Qi (fun (r : Int32) (u : Int32 × Int32 × Int32 × Int32 × (Nat → Int32)) => post r u.1 u.2.1 u.2.2.1 u.2.2.2.1 u.2.2.2.2) (fun (u : Int32 × Int32 × Int32 × Int32 × (Nat → Int32)) t => va_P (dC, dI) vwCl [(h_jo, .inr (1, [.ref h_jB, .int u.1, .int u.2.1, .int u.2.2.1, .int u.2.2.2.1, .int jo_raised, .long jo_result])), (h_jB, .inl (cI, 1000, .inl u.2.2.2.2))] t.heap ∧ va_D (va_A [(h_jo, .inr (1, [.ref h_jB, .int jo_steps, .int jo_left, .int jo_end, .int jo_place, .int jo_raised, .long jo_result])), (h_jB, .inl (cI, 1000, .inl jB))] sz) [(h_jo, .inr (1, [.ref h_jB, .int u.1, .int u.2.1, .int u.2.2.1, .int u.2.2.2.1, .int jo_raised, .long jo_result])), (h_jB, .inl (cI, 1000, .inl u.2.2.2.2))]) (va_A [(h_jo, .inr (1, [.ref h_jB, .int jo_steps, .int jo_left, .int jo_end, .int jo_place, .int jo_raised, .long jo_result])), (h_jB, .inl (cI, 1000, .inl jB))] sz)) 0 0 (va_A [(h_jo, .inr (1, [.ref h_jB, .int jo_steps, .int jo_left, .int jo_end, .int jo_place, .int jo_raised, .long jo_result])), (h_jB, .inl (cI, 1000, .inl jB))] sz) := by
  refine Met.ofW (cc := cJo_begins) (maxL := 2) (ret := (some .boolean)) (by decide) rfl ?_
  intro p e s m args below meth c s₁ B hml hv
  obtain ⟨rfl, hsz, hP, hK, hD0⟩ := hv
  have hx := B.exec
  have hb := B.bytes
  have hr := B.returns
  have hts := atoms_spec (ws := wsJo_begins) B.pre
  have hown : s.vm.findClass RJo = some m.cls := findClass_of_methodNamed B.named
  have hlocks := B.notSynchronized
  subst hsz
  have hD := hD0.self (sz := s.heap.size)
  generalize hAe : va_A [(h_jo, .inr (1, [.ref h_jB, .int jo_steps, .int jo_left, .int jo_end, .int jo_place, .int jo_raised, .long jo_result])), (h_jB, .inl (cI, 1000, .inl jB))] s.heap.size = A at hD ⊢
  have hA : ∀ q : Nat, s.heap.size ≤ q → A q := fun q h => by rw [← hAe]; exact Or.inr h
  have hS : va_S A s.heap s.heap [] := va_S.rf
  have hP : va_P (dC, dI) vwCl [(h_jo, .inr (1, [.ref h_jB, .int jo_steps, .int jo_left, .int jo_end, .int jo_place, .int jo_raised, .long jo_result])), (h_jB, .inl (cI, 1000, .inl jB))] s.heap := hP
  have htb : ∀ w ∈ TB, w.before _ s = true := fun w h => hts w (List.mem_cons_of_mem _ h)
  have hf_9 := htb _ kw_154
  have hf_15 := htb _ kw_158
  have hf_19 := htb _ kw_155
  have hf_29 := htb _ kw_157
  have hf_32 := htb _ kw_162
  have hl := lv_entry ([.ref h_jo, .int a1]) (n := 2) (Nat.le_of_ble_eq_true rfl)
  rw [lg_entry_eq]
  generalize (lg_sl ([.ref h_jo, .int a1]) ++ List.replicate (2 - (lg_sl ([.ref h_jo, .int a1])).length) Slot.unset).toArray = ls at hl ⊢
  have hl : lv_has ls 2 [(0, .ref h_jo), (1, .int a1)] := hl
  unfold wp_Jo_begins at hw
  refine lv_aload_n hx hb dJo_begins_0 rfl (lv_at hl 0 rfl) ?_
  refine va_get (D := (dC, dI)) (ci := 1) (v := .int jo_left) (C := RJo) (T := TJo) (N := 7) hx hb htb in_Jo hown hK.1 hP 0 rfl rfl 2 (by decide) hf_29 (fun _ h9 => h9) rfl dJo_begins_1 ?_
  refine lv_if_gt (tgt := 19) hx hb dJo_begins_4 (by decide) (fun c_4 => ?_) (fun c_4 => ?_)
  · have hw := hw.1 c_4
    refine lv_aload_n hx hb dJo_begins_19 rfl (lv_at hl 0 rfl) ?_
    refine lv_dup hx hb dJo_begins_20 rfl ?_
    refine va_get (D := (dC, dI)) (ci := 1) (v := .int jo_left) (C := RJo) (T := TJo) (N := 7) hx hb htb in_Jo hown hK.1 hP 0 rfl rfl 2 (by decide) hf_29 (fun _ h9 => h9) rfl dJo_begins_21 ?_
    refine lv_iconst (v := 1) hx hb dJo_begins_24 (by decide) ?_
    refine lv_isub hx hb dJo_begins_25 ?_
    refine va_put (D := (dC, dI)) (ci := 1) (v := .int (jo_left - 1)) (ty := .int) (C := RJo) (T := TJo) (N := 7) hx hb htb in_Jo tyJo tyJo_ok nmJo hown hK.1 hP hD hS 0 rfl rfl 2 (by decide) hf_29 (fun _ h9 => h9) rfl (by decide +kernel) rfl rfl (Nat.le_of_ble_eq_true rfl) dJo_begins_26 (fun H locs hP hD hS => ?_)
    have hP : va_P (dC, dI) vwCl [(h_jo, .inr (1, [.ref h_jB, .int jo_steps, .int (jo_left - 1), .int jo_end, .int jo_place, .int jo_raised, .long jo_result])), (h_jB, .inl (cI, 1000, .inl jB))] H := hP
    have hD : va_D A [(h_jo, .inr (1, [.ref h_jB, .int jo_steps, .int (jo_left - 1), .int jo_end, .int jo_place, .int jo_raised, .long jo_result])), (h_jB, .inl (cI, 1000, .inl jB))] := hD
    refine lv_aload_n hx hb dJo_begins_29 rfl (lv_at hl 0 rfl) ?_
    refine va_get (D := (dC, dI)) (ci := 1) (v := .int jo_steps) (C := RJo) (T := TJo) (N := 7) hx hb htb in_Jo hown hK.1 hP 0 rfl rfl 1 (by decide) hf_19 (fun _ h9 => h9) rfl dJo_begins_30 ?_
    refine lv_if_lt (tgt := 58) hx hb dJo_begins_33 (by decide) (fun c_33 => ?_) (fun c_33 => ?_)
    · have hw := hw.1 c_33
      refine lv_aload_n hx hb dJo_begins_58 rfl (lv_at hl 0 rfl) ?_
      refine lv_dup hx hb dJo_begins_59 rfl ?_
      refine va_get (D := (dC, dI)) (ci := 1) (v := .int jo_steps) (C := RJo) (T := TJo) (N := 7) hx hb htb in_Jo hown hK.1 hP 0 rfl rfl 1 (by decide) hf_19 (fun _ h9 => h9) rfl dJo_begins_60 ?_
      refine lv_iconst (v := 1) hx hb dJo_begins_63 (by decide) ?_
      refine lv_iadd hx hb dJo_begins_64 ?_
      refine va_put (D := (dC, dI)) (ci := 1) (v := .int (jo_steps + 1)) (ty := .int) (C := RJo) (T := TJo) (N := 7) hx hb htb in_Jo tyJo tyJo_ok nmJo hown hK.1 hP hD hS 0 rfl rfl 1 (by decide) hf_19 (fun _ h9 => h9) rfl (by decide +kernel) rfl rfl (Nat.le_of_ble_eq_true rfl) dJo_begins_65 (fun H locs hP hD hS => ?_)
      have hP : va_P (dC, dI) vwCl [(h_jo, .inr (1, [.ref h_jB, .int (jo_steps + 1), .int (jo_left - 1), .int jo_end, .int jo_place, .int jo_raised, .long jo_result])), (h_jB, .inl (cI, 1000, .inl jB))] H := hP
      have hD : va_D A [(h_jo, .inr (1, [.ref h_jB, .int (jo_steps + 1), .int (jo_left - 1), .int jo_end, .int jo_place, .int jo_raised, .long jo_result])), (h_jB, .inl (cI, 1000, .inl jB))] := hD
      refine lv_iconst (v := 1) hx hb dJo_begins_68 (by decide) ?_
      have hP9 := hP.sub (ws' := [(h_jo, .inr (1, [.ref h_jB, .int (jo_steps + 1), .int (jo_left - 1), .int jo_end, .int jo_place, .int jo_raised, .long jo_result])), (h_jB, .inl (cI, 1000, .inl jB))]) [0, 1] rfl
      have hD9 := hD.sub (ws' := [(h_jo, .inr (1, [.ref h_jB, .int (jo_steps + 1), .int (jo_left - 1), .int jo_end, .int jo_place, .int jo_raised, .long jo_result])), (h_jB, .inl (cI, 1000, .inl jB))]) [0, 1] (by decide) rfl
      exact W.zret (v := 1) hx hb hr (by decide) (fun t ht hW => ⟨⟨_, ((jo_steps + 1), (jo_left - 1), jo_end, jo_place, jB), rfl, hw, by rw [ht]; exact hP9, hD9⟩, hS.F ht⟩) hS.2.2 dJo_begins_69
    · have hw := hw.2 c_33
      refine lv_aload_n hx hb dJo_begins_36 rfl (lv_at hl 0 rfl) ?_
      refine va_get (D := (dC, dI)) (ci := 1) (v := .int jo_steps) (C := RJo) (T := TJo) (N := 7) hx hb htb in_Jo hown hK.1 hP 0 rfl rfl 1 (by decide) hf_19 (fun _ h9 => h9) rfl dJo_begins_37 ?_
      refine lv_aload_n hx hb dJo_begins_40 rfl (lv_at hl 0 rfl) ?_
      refine va_get (D := (dC, dI)) (ci := 1) (v := .ref h_jB) (C := RJo) (T := TJo) (N := 7) hx hb htb in_Jo hown hK.1 hP 0 rfl rfl 0 (by decide) hf_9 (fun _ h9 => h9) rfl dJo_begins_41 ?_
      refine va_alen (v := 1000) hx hb hK.1 hP 1 0 rfl rfl (show Int32.ofNat 1000 = 1000 by decide +kernel) dJo_begins_44 ?_
      refine lv_icmp_ge (tgt := 58) hx hb dJo_begins_45 (by decide) (fun c_45 => ?_) (fun c_45 => ?_)
      · have hw := hw.1 c_45
        refine lv_aload_n hx hb dJo_begins_58 rfl (lv_at hl 0 rfl) ?_
        refine lv_dup hx hb dJo_begins_59 rfl ?_
        refine va_get (D := (dC, dI)) (ci := 1) (v := .int jo_steps) (C := RJo) (T := TJo) (N := 7) hx hb htb in_Jo hown hK.1 hP 0 rfl rfl 1 (by decide) hf_19 (fun _ h9 => h9) rfl dJo_begins_60 ?_
        refine lv_iconst (v := 1) hx hb dJo_begins_63 (by decide) ?_
        refine lv_iadd hx hb dJo_begins_64 ?_
        refine va_put (D := (dC, dI)) (ci := 1) (v := .int (jo_steps + 1)) (ty := .int) (C := RJo) (T := TJo) (N := 7) hx hb htb in_Jo tyJo tyJo_ok nmJo hown hK.1 hP hD hS 0 rfl rfl 1 (by decide) hf_19 (fun _ h9 => h9) rfl (by decide +kernel) rfl rfl (Nat.le_of_ble_eq_true rfl) dJo_begins_65 (fun H locs hP hD hS => ?_)
        have hP : va_P (dC, dI) vwCl [(h_jo, .inr (1, [.ref h_jB, .int (jo_steps + 1), .int (jo_left - 1), .int jo_end, .int jo_place, .int jo_raised, .long jo_result])), (h_jB, .inl (cI, 1000, .inl jB))] H := hP
        have hD : va_D A [(h_jo, .inr (1, [.ref h_jB, .int (jo_steps + 1), .int (jo_left - 1), .int jo_end, .int jo_place, .int jo_raised, .long jo_result])), (h_jB, .inl (cI, 1000, .inl jB))] := hD
        refine lv_iconst (v := 1) hx hb dJo_begins_68 (by decide) ?_
        have hP9 := hP.sub (ws' := [(h_jo, .inr (1, [.ref h_jB, .int (jo_steps + 1), .int (jo_left - 1), .int jo_end, .int jo_place, .int jo_raised, .long jo_result])), (h_jB, .inl (cI, 1000, .inl jB))]) [0, 1] rfl
        have hD9 := hD.sub (ws' := [(h_jo, .inr (1, [.ref h_jB, .int (jo_steps + 1), .int (jo_left - 1), .int jo_end, .int jo_place, .int jo_raised, .long jo_result])), (h_jB, .inl (cI, 1000, .inl jB))]) [0, 1] (by decide) rfl
        exact W.zret (v := 1) hx hb hr (by decide) (fun t ht hW => ⟨⟨_, ((jo_steps + 1), (jo_left - 1), jo_end, jo_place, jB), rfl, hw, by rw [ht]; exact hP9, hD9⟩, hS.F ht⟩) hS.2.2 dJo_begins_69
      · have hw := hw.2 c_45
        refine lv_aload_n hx hb dJo_begins_48 rfl (lv_at hl 0 rfl) ?_
        refine va_get (D := (dC, dI)) (ci := 1) (v := .ref h_jB) (C := RJo) (T := TJo) (N := 7) hx hb htb in_Jo hown hK.1 hP 0 rfl rfl 0 (by decide) hf_9 (fun _ h9 => h9) rfl dJo_begins_49 ?_
        refine lv_aload_n hx hb dJo_begins_52 rfl (lv_at hl 0 rfl) ?_
        refine va_get (D := (dC, dI)) (ci := 1) (v := .int jo_steps) (C := RJo) (T := TJo) (N := 7) hx hb htb in_Jo hown hK.1 hP 0 rfl rfl 1 (by decide) hf_19 (fun _ h9 => h9) rfl dJo_begins_53 ?_
        refine lv_iload_n hx hb dJo_begins_56 rfl (lv_at hl 1 rfl) ?_
        obtain ⟨hin, hw⟩ := hw
        refine va_iast hx hb hK.1 hP hD hS 1 0 rfl rfl hin dJo_begins_57 (fun H locs hP hD hS => ?_)
        have hP : va_P (dC, dI) vwCl [(h_jo, .inr (1, [.ref h_jB, .int jo_steps, .int (jo_left - 1), .int jo_end, .int jo_place, .int jo_raised, .long jo_result])), (h_jB, .inl (cI, 1000, .inl (upd jB jo_steps.toNatClampNeg a1)))] H := hP
        have hD : va_D A [(h_jo, .inr (1, [.ref h_jB, .int jo_steps, .int (jo_left - 1), .int jo_end, .int jo_place, .int jo_raised, .long jo_result])), (h_jB, .inl (cI, 1000, .inl (upd jB jo_steps.toNatClampNeg a1)))] := hD
        refine lv_aload_n hx hb dJo_begins_58 rfl (lv_at hl 0 rfl) ?_
        refine lv_dup hx hb dJo_begins_59 rfl ?_
        refine va_get (D := (dC, dI)) (ci := 1) (v := .int jo_steps) (C := RJo) (T := TJo) (N := 7) hx hb htb in_Jo hown hK.1 hP 0 rfl rfl 1 (by decide) hf_19 (fun _ h9 => h9) rfl dJo_begins_60 ?_
        refine lv_iconst (v := 1) hx hb dJo_begins_63 (by decide) ?_
        refine lv_iadd hx hb dJo_begins_64 ?_
        refine va_put (D := (dC, dI)) (ci := 1) (v := .int (jo_steps + 1)) (ty := .int) (C := RJo) (T := TJo) (N := 7) hx hb htb in_Jo tyJo tyJo_ok nmJo hown hK.1 hP hD hS 0 rfl rfl 1 (by decide) hf_19 (fun _ h9 => h9) rfl (by decide +kernel) rfl rfl (Nat.le_of_ble_eq_true rfl) dJo_begins_65 (fun H locs hP hD hS => ?_)
        have hP : va_P (dC, dI) vwCl [(h_jo, .inr (1, [.ref h_jB, .int (jo_steps + 1), .int (jo_left - 1), .int jo_end, .int jo_place, .int jo_raised, .long jo_result])), (h_jB, .inl (cI, 1000, .inl (upd jB jo_steps.toNatClampNeg a1)))] H := hP
        have hD : va_D A [(h_jo, .inr (1, [.ref h_jB, .int (jo_steps + 1), .int (jo_left - 1), .int jo_end, .int jo_place, .int jo_raised, .long jo_result])), (h_jB, .inl (cI, 1000, .inl (upd jB jo_steps.toNatClampNeg a1)))] := hD
        refine lv_iconst (v := 1) hx hb dJo_begins_68 (by decide) ?_
        have hP9 := hP.sub (ws' := [(h_jo, .inr (1, [.ref h_jB, .int (jo_steps + 1), .int (jo_left - 1), .int jo_end, .int jo_place, .int jo_raised, .long jo_result])), (h_jB, .inl (cI, 1000, .inl (upd jB jo_steps.toNatClampNeg a1)))]) [0, 1] rfl
        have hD9 := hD.sub (ws' := [(h_jo, .inr (1, [.ref h_jB, .int (jo_steps + 1), .int (jo_left - 1), .int jo_end, .int jo_place, .int jo_raised, .long jo_result])), (h_jB, .inl (cI, 1000, .inl (upd jB jo_steps.toNatClampNeg a1)))]) [0, 1] (by decide) rfl
        exact W.zret (v := 1) hx hb hr (by decide) (fun t ht hW => ⟨⟨_, ((jo_steps + 1), (jo_left - 1), jo_end, jo_place, (upd jB jo_steps.toNatClampNeg a1)), rfl, hw, by rw [ht]; exact hP9, hD9⟩, hS.F ht⟩) hS.2.2 dJo_begins_69
  · have hw := hw.2 c_4
    refine lv_aload_n hx hb dJo_begins_7 rfl (lv_at hl 0 rfl) ?_
    refine lv_iconst (v := 0) hx hb dJo_begins_8 (by decide) ?_
    refine va_put (D := (dC, dI)) (ci := 1) (v := .int 0) (ty := .int) (C := RJo) (T := TJo) (N := 7) hx hb htb in_Jo tyJo tyJo_ok nmJo hown hK.1 hP hD hS 0 rfl rfl 3 (by decide) hf_15 (fun _ h9 => h9) rfl (by decide +kernel) rfl rfl (Nat.le_of_ble_eq_true rfl) dJo_begins_9 (fun H locs hP hD hS => ?_)
    have hP : va_P (dC, dI) vwCl [(h_jo, .inr (1, [.ref h_jB, .int jo_steps, .int jo_left, .int 0, .int jo_place, .int jo_raised, .long jo_result])), (h_jB, .inl (cI, 1000, .inl jB))] H := hP
    have hD : va_D A [(h_jo, .inr (1, [.ref h_jB, .int jo_steps, .int jo_left, .int 0, .int jo_place, .int jo_raised, .long jo_result])), (h_jB, .inl (cI, 1000, .inl jB))] := hD
    refine lv_aload_n hx hb dJo_begins_12 rfl (lv_at hl 0 rfl) ?_
    refine lv_iload_n hx hb dJo_begins_13 rfl (lv_at hl 1 rfl) ?_
    refine va_put (D := (dC, dI)) (ci := 1) (v := .int a1) (ty := .int) (C := RJo) (T := TJo) (N := 7) hx hb htb in_Jo tyJo tyJo_ok nmJo hown hK.1 hP hD hS 0 rfl rfl 4 (by decide) hf_32 (fun _ h9 => h9) rfl (by decide +kernel) rfl rfl (Nat.le_of_ble_eq_true rfl) dJo_begins_14 (fun H locs hP hD hS => ?_)
    have hP : va_P (dC, dI) vwCl [(h_jo, .inr (1, [.ref h_jB, .int jo_steps, .int jo_left, .int 0, .int a1, .int jo_raised, .long jo_result])), (h_jB, .inl (cI, 1000, .inl jB))] H := hP
    have hD : va_D A [(h_jo, .inr (1, [.ref h_jB, .int jo_steps, .int jo_left, .int 0, .int a1, .int jo_raised, .long jo_result])), (h_jB, .inl (cI, 1000, .inl jB))] := hD
    refine lv_iconst (v := 0) hx hb dJo_begins_17 (by decide) ?_
    have hP9 := hP.sub (ws' := [(h_jo, .inr (1, [.ref h_jB, .int jo_steps, .int jo_left, .int 0, .int a1, .int jo_raised, .long jo_result])), (h_jB, .inl (cI, 1000, .inl jB))]) [0, 1] rfl
    have hD9 := hD.sub (ws' := [(h_jo, .inr (1, [.ref h_jB, .int jo_steps, .int jo_left, .int 0, .int a1, .int jo_raised, .long jo_result])), (h_jB, .inl (cI, 1000, .inl jB))]) [0, 1] (by decide) rfl
    exact W.zret (v := 0) hx hb hr (by decide) (fun t ht hW => ⟨⟨_, (jo_steps, jo_left, 0, a1, jB), rfl, hw, by rw [ht]; exact hP9, hD9⟩, hS.F ht⟩) hS.2.2 dJo_begins_18
def wp_Jo_endWith (post : Int32 → Int64 → Prop) (jo_steps : Int32) (jo_left : Int32) (jo_end : Int32) (jo_place : Int32) (jo_raised : Int32) (jo_result : Int64) (a1 : Int64) : Prop := (post 1 a1)
set_option maxHeartbeats 4000000 in
set_option maxRecDepth 100000 in
theorem met_Jo_endWith (l : Launch) (dC : Nat → ClassId) (dI : Nat → Nat → Nat) (cI cL cB : ClassId) (sz : Nat) (h_jo h_jB : Nat) (jo_steps : Int32) (jo_left : Int32) (jo_end : Int32) (jo_place : Int32) (jo_raised : Int32) (jo_result : Int64) (a1 : Int64) (post : Int32 → Int64 → Prop) (hw : wp_Jo_endWith post jo_steps jo_left jo_end jo_place jo_raised jo_result a1) : Met l yJo_endWith wsJo_endWith ({ frames := 0, cells := 0, slots := 0, locals := 0 } : Room) (va_Pc [.ref h_jo, .long a1] (fun U => U.heap.size = sz ∧ va_P (dC, dI) vwCl [(h_jo, .inr (1, [.ref h_jB, .int jo_steps, .int jo_left, .int jo_end, .int jo_place, .int jo_raised, .long jo_result]))] U.heap ∧ KK dC dI cI cL cB U ∧ va_D (fun _ => True) [(h_jo, .inr (1, [.ref h_jB, .int jo_steps, .int jo_left, .int jo_end, .int jo_place, .int jo_raised, .long jo_result]))])) (va_Qv (fun (u : Int32 × Int64) => post u.1 u.2) (fun (u : Int32 × Int64) t => va_P (dC, dI) vwCl [(h_jo, .inr (1, [.ref h_jB, .int jo_steps, .int jo_left, .int u.1, .int jo_place, .int jo_raised, .long u.2]))] t.heap ∧ va_D (va_A [(h_jo, .inr (1, [.ref h_jB, .int jo_steps, .int jo_left, .int jo_end, .int jo_place, .int jo_raised, .long jo_result]))] sz) [(h_jo, .inr (1, [.ref h_jB, .int jo_steps, .int jo_left, .int u.1, .int jo_place, .int jo_raised, .long u.2]))]) (va_A [(h_jo, .inr (1, [.ref h_jB, .int jo_steps, .int jo_left, .int jo_end, .int jo_place, .int jo_raised, .long jo_result]))] sz)) 0 0 (va_A [(h_jo, .inr (1, [.ref h_jB, .int jo_steps, .int jo_left, .int jo_end, .int jo_place, .int jo_raised, .long jo_result]))] sz) := by
  refine Met.ofW (cc := cJo_endWith) (maxL := 3) (ret := none) (by decide) rfl ?_
  intro p e s m args below meth c s₁ B hml hv
  obtain ⟨rfl, hsz, hP, hK, hD0⟩ := hv
  have hx := B.exec
  have hb := B.bytes
  have hr := B.returns
  have hts := atoms_spec (ws := wsJo_endWith) B.pre
  have hown : s.vm.findClass RJo = some m.cls := findClass_of_methodNamed B.named
  have hlocks := B.notSynchronized
  subst hsz
  have hD := hD0.self (sz := s.heap.size)
  generalize hAe : va_A [(h_jo, .inr (1, [.ref h_jB, .int jo_steps, .int jo_left, .int jo_end, .int jo_place, .int jo_raised, .long jo_result]))] s.heap.size = A at hD ⊢
  have hA : ∀ q : Nat, s.heap.size ≤ q → A q := fun q h => by rw [← hAe]; exact Or.inr h
  have hS : va_S A s.heap s.heap [] := va_S.rf
  have hP : va_P (dC, dI) vwCl [(h_jo, .inr (1, [.ref h_jB, .int jo_steps, .int jo_left, .int jo_end, .int jo_place, .int jo_raised, .long jo_result]))] s.heap := hP
  have htb : ∀ w ∈ TB, w.before _ s = true := fun w h => hts w (List.mem_cons_of_mem _ h)
  have hf_15 := htb _ kw_158
  have hf_35 := htb _ kw_166
  have hl := lv_entry ([.ref h_jo, .long a1]) (n := 3) (Nat.le_of_ble_eq_true rfl)
  rw [lg_entry_eq]
  generalize (lg_sl ([.ref h_jo, .long a1]) ++ List.replicate (3 - (lg_sl ([.ref h_jo, .long a1])).length) Slot.unset).toArray = ls at hl ⊢
  have hl : lv_has ls 3 [(0, .ref h_jo), (1, .long a1)] := hl
  unfold wp_Jo_endWith at hw
  refine lv_aload_n hx hb dJo_endWith_0 rfl (lv_at hl 0 rfl) ?_
  refine lv_iconst (v := 1) hx hb dJo_endWith_1 (by decide) ?_
  refine va_put (D := (dC, dI)) (ci := 1) (v := .int 1) (ty := .int) (C := RJo) (T := TJo) (N := 7) hx hb htb in_Jo tyJo tyJo_ok nmJo hown hK.1 hP hD hS 0 rfl rfl 3 (by decide) hf_15 (fun _ h9 => h9) rfl (by decide +kernel) rfl rfl (Nat.le_of_ble_eq_true rfl) dJo_endWith_2 (fun H locs hP hD hS => ?_)
  have hP : va_P (dC, dI) vwCl [(h_jo, .inr (1, [.ref h_jB, .int jo_steps, .int jo_left, .int 1, .int jo_place, .int jo_raised, .long jo_result]))] H := hP
  have hD : va_D A [(h_jo, .inr (1, [.ref h_jB, .int jo_steps, .int jo_left, .int 1, .int jo_place, .int jo_raised, .long jo_result]))] := hD
  refine lv_aload_n hx hb dJo_endWith_5 rfl (lv_at hl 0 rfl) ?_
  refine lv_lload_n hx hb dJo_endWith_6 rfl (lv_at hl 1 rfl) ?_
  refine va_put (D := (dC, dI)) (ci := 1) (v := .long a1) (ty := .long) (C := RJo) (T := TJo) (N := 7) hx hb htb in_Jo tyJo tyJo_ok nmJo hown hK.1 hP hD hS 0 rfl rfl 6 (by decide) hf_35 (fun _ h9 => h9) rfl (by decide +kernel) rfl rfl (Nat.le_of_ble_eq_true rfl) dJo_endWith_7 (fun H locs hP hD hS => ?_)
  have hP : va_P (dC, dI) vwCl [(h_jo, .inr (1, [.ref h_jB, .int jo_steps, .int jo_left, .int 1, .int jo_place, .int jo_raised, .long a1]))] H := hP
  have hD : va_D A [(h_jo, .inr (1, [.ref h_jB, .int jo_steps, .int jo_left, .int 1, .int jo_place, .int jo_raised, .long a1]))] := hD
  have hP9 := hP.sub (ws' := [(h_jo, .inr (1, [.ref h_jB, .int jo_steps, .int jo_left, .int 1, .int jo_place, .int jo_raised, .long a1]))]) [0] rfl
  have hD9 := hD.sub (ws' := [(h_jo, .inr (1, [.ref h_jB, .int jo_steps, .int jo_left, .int 1, .int jo_place, .int jo_raised, .long a1]))]) [0] (by decide) rfl
  exact W.vret hx hb hr (fun t ht hW => ⟨⟨(1, a1), rfl, hw, by rw [ht]; exact hP9, hD9⟩, hS.F ht⟩) hS.2.2 dJo_endWith_10
def wp_Jo_endRaising (post : Int32 → Int32 → Prop) (jo_steps : Int32) (jo_left : Int32) (jo_end : Int32) (jo_place : Int32) (jo_raised : Int32) (jo_result : Int64) (a1 : Int32) : Prop := (post 2 a1)
set_option maxHeartbeats 4000000 in
set_option maxRecDepth 100000 in
theorem met_Jo_endRaising (l : Launch) (dC : Nat → ClassId) (dI : Nat → Nat → Nat) (cI cL cB : ClassId) (sz : Nat) (h_jo h_jB : Nat) (jo_steps : Int32) (jo_left : Int32) (jo_end : Int32) (jo_place : Int32) (jo_raised : Int32) (jo_result : Int64) (a1 : Int32) (post : Int32 → Int32 → Prop) (hw : wp_Jo_endRaising post jo_steps jo_left jo_end jo_place jo_raised jo_result a1) : Met l yJo_endRaising wsJo_endRaising ({ frames := 0, cells := 0, slots := 0, locals := 0 } : Room) (va_Pc [.ref h_jo, .int a1] (fun U => U.heap.size = sz ∧ va_P (dC, dI) vwCl [(h_jo, .inr (1, [.ref h_jB, .int jo_steps, .int jo_left, .int jo_end, .int jo_place, .int jo_raised, .long jo_result]))] U.heap ∧ KK dC dI cI cL cB U ∧ va_D (fun _ => True) [(h_jo, .inr (1, [.ref h_jB, .int jo_steps, .int jo_left, .int jo_end, .int jo_place, .int jo_raised, .long jo_result]))])) (va_Qv (fun (u : Int32 × Int32) => post u.1 u.2) (fun (u : Int32 × Int32) t => va_P (dC, dI) vwCl [(h_jo, .inr (1, [.ref h_jB, .int jo_steps, .int jo_left, .int u.1, .int jo_place, .int u.2, .long jo_result]))] t.heap ∧ va_D (va_A [(h_jo, .inr (1, [.ref h_jB, .int jo_steps, .int jo_left, .int jo_end, .int jo_place, .int jo_raised, .long jo_result]))] sz) [(h_jo, .inr (1, [.ref h_jB, .int jo_steps, .int jo_left, .int u.1, .int jo_place, .int u.2, .long jo_result]))]) (va_A [(h_jo, .inr (1, [.ref h_jB, .int jo_steps, .int jo_left, .int jo_end, .int jo_place, .int jo_raised, .long jo_result]))] sz)) 0 0 (va_A [(h_jo, .inr (1, [.ref h_jB, .int jo_steps, .int jo_left, .int jo_end, .int jo_place, .int jo_raised, .long jo_result]))] sz) := by
  refine Met.ofW (cc := cJo_endRaising) (maxL := 2) (ret := none) (by decide) rfl ?_
  intro p e s m args below meth c s₁ B hml hv
  obtain ⟨rfl, hsz, hP, hK, hD0⟩ := hv
  have hx := B.exec
  have hb := B.bytes
  have hr := B.returns
  have hts := atoms_spec (ws := wsJo_endRaising) B.pre
  have hown : s.vm.findClass RJo = some m.cls := findClass_of_methodNamed B.named
  have hlocks := B.notSynchronized
  subst hsz
  have hD := hD0.self (sz := s.heap.size)
  generalize hAe : va_A [(h_jo, .inr (1, [.ref h_jB, .int jo_steps, .int jo_left, .int jo_end, .int jo_place, .int jo_raised, .long jo_result]))] s.heap.size = A at hD ⊢
  have hA : ∀ q : Nat, s.heap.size ≤ q → A q := fun q h => by rw [← hAe]; exact Or.inr h
  have hS : va_S A s.heap s.heap [] := va_S.rf
  have hP : va_P (dC, dI) vwCl [(h_jo, .inr (1, [.ref h_jB, .int jo_steps, .int jo_left, .int jo_end, .int jo_place, .int jo_raised, .long jo_result]))] s.heap := hP
  have htb : ∀ w ∈ TB, w.before _ s = true := fun w h => hts w (List.mem_cons_of_mem _ h)
  have hf_15 := htb _ kw_158
  have hf_22 := htb _ kw_164
  have hl := lv_entry ([.ref h_jo, .int a1]) (n := 2) (Nat.le_of_ble_eq_true rfl)
  rw [lg_entry_eq]
  generalize (lg_sl ([.ref h_jo, .int a1]) ++ List.replicate (2 - (lg_sl ([.ref h_jo, .int a1])).length) Slot.unset).toArray = ls at hl ⊢
  have hl : lv_has ls 2 [(0, .ref h_jo), (1, .int a1)] := hl
  unfold wp_Jo_endRaising at hw
  refine lv_aload_n hx hb dJo_endRaising_0 rfl (lv_at hl 0 rfl) ?_
  refine lv_iconst (v := 2) hx hb dJo_endRaising_1 (by decide) ?_
  refine va_put (D := (dC, dI)) (ci := 1) (v := .int 2) (ty := .int) (C := RJo) (T := TJo) (N := 7) hx hb htb in_Jo tyJo tyJo_ok nmJo hown hK.1 hP hD hS 0 rfl rfl 3 (by decide) hf_15 (fun _ h9 => h9) rfl (by decide +kernel) rfl rfl (Nat.le_of_ble_eq_true rfl) dJo_endRaising_2 (fun H locs hP hD hS => ?_)
  have hP : va_P (dC, dI) vwCl [(h_jo, .inr (1, [.ref h_jB, .int jo_steps, .int jo_left, .int 2, .int jo_place, .int jo_raised, .long jo_result]))] H := hP
  have hD : va_D A [(h_jo, .inr (1, [.ref h_jB, .int jo_steps, .int jo_left, .int 2, .int jo_place, .int jo_raised, .long jo_result]))] := hD
  refine lv_aload_n hx hb dJo_endRaising_5 rfl (lv_at hl 0 rfl) ?_
  refine lv_iload_n hx hb dJo_endRaising_6 rfl (lv_at hl 1 rfl) ?_
  refine va_put (D := (dC, dI)) (ci := 1) (v := .int a1) (ty := .int) (C := RJo) (T := TJo) (N := 7) hx hb htb in_Jo tyJo tyJo_ok nmJo hown hK.1 hP hD hS 0 rfl rfl 5 (by decide) hf_22 (fun _ h9 => h9) rfl (by decide +kernel) rfl rfl (Nat.le_of_ble_eq_true rfl) dJo_endRaising_7 (fun H locs hP hD hS => ?_)
  have hP : va_P (dC, dI) vwCl [(h_jo, .inr (1, [.ref h_jB, .int jo_steps, .int jo_left, .int 2, .int jo_place, .int a1, .long jo_result]))] H := hP
  have hD : va_D A [(h_jo, .inr (1, [.ref h_jB, .int jo_steps, .int jo_left, .int 2, .int jo_place, .int a1, .long jo_result]))] := hD
  have hP9 := hP.sub (ws' := [(h_jo, .inr (1, [.ref h_jB, .int jo_steps, .int jo_left, .int 2, .int jo_place, .int a1, .long jo_result]))]) [0] rfl
  have hD9 := hD.sub (ws' := [(h_jo, .inr (1, [.ref h_jB, .int jo_steps, .int jo_left, .int 2, .int jo_place, .int a1, .long jo_result]))]) [0] (by decide) rfl
  exact W.vret hx hb hr (fun t ht hW => ⟨⟨(2, a1), rfl, hw, by rw [ht]; exact hP9, hD9⟩, hS.F ht⟩) hS.2.2 dJo_endRaising_10
def wp_Jo_begunAt (post : Int32 → Prop) (jo_steps : Int32) (jo_left : Int32) (jo_end : Int32) (jo_place : Int32) (jo_raised : Int32) (jo_result : Int64) (jB : (Nat → Int32)) (a1 : Int32) : Prop := ((a1 < 0 → (post 0)) ∧ (¬ a1 < 0 → ((jo_steps ≤ a1 → (post 0)) ∧ (¬ jo_steps ≤ a1 → ((1000 ≤ a1 → (post 0)) ∧ (¬ 1000 ≤ a1 → (vp_in a1 1000 ∧ (post (jB a1.toNatClampNeg)))))))))
set_option maxHeartbeats 4000000 in
set_option maxRecDepth 100000 in
theorem met_Jo_begunAt (l : Launch) (dC : Nat → ClassId) (dI : Nat → Nat → Nat) (cI cL cB : ClassId) (h_jo h_jB : Nat) (jo_steps : Int32) (jo_left : Int32) (jo_end : Int32) (jo_place : Int32) (jo_raised : Int32) (jo_result : Int64) (jB : (Nat → Int32)) (a1 : Int32) (post : Int32 → Prop) (hw : wp_Jo_begunAt post jo_steps jo_left jo_end jo_place jo_raised jo_result jB a1) : Met l yJo_begunAt wsJo_begunAt ({ frames := 0, cells := 0, slots := 0, locals := 0 } : Room) (va_Pc [.ref h_jo, .int a1] (fun U => va_P (dC, dI) vwCl [(h_jo, .inr (1, [.ref h_jB, .int jo_steps, .int jo_left, .int jo_end, .int jo_place, .int jo_raised, .long jo_result])), (h_jB, .inl (cI, 1000, .inl jB))] U.heap ∧ KK dC dI cI cL cB U)) (ro_i post) 0 0 (fun _ => False) := by
  refine Met.ofW (cc := cJo_begunAt) (maxL := 2) (ret := (some .int)) (by decide) rfl ?_
  intro p e s m args below meth c s₁ B hml hv
  obtain ⟨rfl, hP, hK⟩ := hv
  have hx := B.exec
  have hb := B.bytes
  have hr := B.returns
  have hts := atoms_spec (ws := wsJo_begunAt) B.pre
  have hown : s.vm.findClass RJo = some m.cls := findClass_of_methodNamed B.named
  have hlocks := B.notSynchronized
  have hS : va_S (fun _ => False) s.heap s.heap [] := va_S.rf
  have htb : ∀ w ∈ TB, w.before _ s = true := fun w h => hts w (List.mem_cons_of_mem _ h)
  have hf_9 := htb _ kw_154
  have hf_19 := htb _ kw_155
  have hl := lv_entry ([.ref h_jo, .int a1]) (n := 2) (Nat.le_of_ble_eq_true rfl)
  rw [lg_entry_eq]
  generalize (lg_sl ([.ref h_jo, .int a1]) ++ List.replicate (2 - (lg_sl ([.ref h_jo, .int a1])).length) Slot.unset).toArray = ls at hl ⊢
  have hl : lv_has ls 2 [(0, .ref h_jo), (1, .int a1)] := hl
  unfold wp_Jo_begunAt at hw
  refine lv_iload_n hx hb dJo_begunAt_0 rfl (lv_at hl 1 rfl) ?_
  refine lv_if_lt (tgt := 30) hx hb dJo_begunAt_1 (by decide) (fun c_1 => ?_) (fun c_1 => ?_)
  · have hw := hw.1 c_1
    refine lv_iconst (v := 0) hx hb dJo_begunAt_30 (by decide) ?_
    exact W.iret (v := 0) hx hb hr (fun t ht hW => ⟨_, rfl, hw, ht⟩) (fun q h => absurd h List.not_mem_nil) dJo_begunAt_31
  · have hw := hw.2 c_1
    refine lv_iload_n hx hb dJo_begunAt_4 rfl (lv_at hl 1 rfl) ?_
    refine lv_aload_n hx hb dJo_begunAt_5 rfl (lv_at hl 0 rfl) ?_
    refine va_get (D := (dC, dI)) (ci := 1) (v := .int jo_steps) (C := RJo) (T := TJo) (N := 7) hx hb htb in_Jo hown hK.1 hP 0 rfl rfl 1 (by decide) hf_19 (fun _ h9 => h9) rfl dJo_begunAt_6 ?_
    refine lv_icmp_ge (tgt := 30) hx hb dJo_begunAt_9 (by decide) (fun c_9 => ?_) (fun c_9 => ?_)
    · have hw := hw.1 c_9
      refine lv_iconst (v := 0) hx hb dJo_begunAt_30 (by decide) ?_
      exact W.iret (v := 0) hx hb hr (fun t ht hW => ⟨_, rfl, hw, ht⟩) (fun q h => absurd h List.not_mem_nil) dJo_begunAt_31
    · have hw := hw.2 c_9
      refine lv_iload_n hx hb dJo_begunAt_12 rfl (lv_at hl 1 rfl) ?_
      refine lv_aload_n hx hb dJo_begunAt_13 rfl (lv_at hl 0 rfl) ?_
      refine va_get (D := (dC, dI)) (ci := 1) (v := .ref h_jB) (C := RJo) (T := TJo) (N := 7) hx hb htb in_Jo hown hK.1 hP 0 rfl rfl 0 (by decide) hf_9 (fun _ h9 => h9) rfl dJo_begunAt_14 ?_
      refine va_alen (v := 1000) hx hb hK.1 hP 1 0 rfl rfl (show Int32.ofNat 1000 = 1000 by decide +kernel) dJo_begunAt_17 ?_
      refine lv_icmp_ge (tgt := 30) hx hb dJo_begunAt_18 (by decide) (fun c_18 => ?_) (fun c_18 => ?_)
      · have hw := hw.1 c_18
        refine lv_iconst (v := 0) hx hb dJo_begunAt_30 (by decide) ?_
        exact W.iret (v := 0) hx hb hr (fun t ht hW => ⟨_, rfl, hw, ht⟩) (fun q h => absurd h List.not_mem_nil) dJo_begunAt_31
      · have hw := hw.2 c_18
        refine lv_aload_n hx hb dJo_begunAt_21 rfl (lv_at hl 0 rfl) ?_
        refine va_get (D := (dC, dI)) (ci := 1) (v := .ref h_jB) (C := RJo) (T := TJo) (N := 7) hx hb htb in_Jo hown hK.1 hP 0 rfl rfl 0 (by decide) hf_9 (fun _ h9 => h9) rfl dJo_begunAt_22 ?_
        refine lv_iload_n hx hb dJo_begunAt_25 rfl (lv_at hl 1 rfl) ?_
        obtain ⟨hin, hw⟩ := hw
        refine va_iald hx hb hK.1 hP 1 0 rfl rfl hin dJo_begunAt_26 ?_
        refine lv_goto (tgt := 31) hx hb dJo_begunAt_27 (by decide) ?_
        exact W.iret (v := (jB a1.toNatClampNeg)) hx hb hr (fun t ht hW => ⟨_, rfl, hw, ht⟩) (fun q h => absurd h List.not_mem_nil) dJo_begunAt_31
def wl_Jo_isLike_70 (post : Int32 → Prop) (jo_steps : Int32) (jo_left : Int32) (jo_end : Int32) (jo_place : Int32) (jo_raised : Int32) (jo_result : Int64) (jB : (Nat → Int32)) (jo2_steps : Int32) (jo2_left : Int32) (jo2_end : Int32) (jo2_place : Int32) (jo2_raised : Int32) (jo2_result : Int64) (jB2 : (Nat → Int32)) : Nat → Int32 → Prop
  | 0, _ => False
  | n + 1, y2 => ((jo_steps ≤ y2 → (post 1)) ∧ (¬ jo_steps ≤ y2 → ((1000 ≤ y2 → (post 1)) ∧ (¬ 1000 ≤ y2 → (vp_in y2 1000 ∧ (wp_Jo_begunAt (fun (r_95 : Int32) => (((jB y2.toNatClampNeg) = r_95 → (wl_Jo_isLike_70 post jo_steps jo_left jo_end jo_place jo_raised jo_result jB jo2_steps jo2_left jo2_end jo2_place jo2_raised jo2_result jB2 n (y2 + 1))) ∧ (¬ (jB y2.toNatClampNeg) = r_95 → (post 0)))) jo2_steps jo2_left jo2_end jo2_place jo2_raised jo2_result jB2 y2))))))
def wp_Jo_isLike (post : Int32 → Prop) (jo_steps : Int32) (jo_left : Int32) (jo_end : Int32) (jo_place : Int32) (jo_raised : Int32) (jo_result : Int64) (jB : (Nat → Int32)) (jo2_steps : Int32) (jo2_left : Int32) (jo2_end : Int32) (jo2_place : Int32) (jo2_raised : Int32) (jo2_result : Int64) (jB2 : (Nat → Int32)) : Prop := ((¬ jo_steps = jo2_steps → (post 0)) ∧ (jo_steps = jo2_steps → ((¬ jo_end = jo2_end → (post 0)) ∧ (jo_end = jo2_end → ((¬ jo_place = jo2_place → (post 0)) ∧ (jo_place = jo2_place → ((jo_raised = jo2_raised → ((¬ jo_end = 1 → (∃ n : Nat, wl_Jo_isLike_70 post jo_steps jo_left jo_end jo_place jo_raised jo_result jB jo2_steps jo2_left jo2_end jo2_place jo2_raised jo2_result jB2 n 0)) ∧ (jo_end = 1 → (((lg_cmp jo_result jo2_result) = 0 → (∃ n : Nat, wl_Jo_isLike_70 post jo_steps jo_left jo_end jo_place jo_raised jo_result jB jo2_steps jo2_left jo2_end jo2_place jo2_raised jo2_result jB2 n 0)) ∧ (¬ (lg_cmp jo_result jo2_result) = 0 → (post 0)))))) ∧ (¬ jo_raised = jo2_raised → (post 0)))))))))
set_option maxHeartbeats 4000000 in
set_option maxRecDepth 100000 in
theorem met_Jo_isLike (l : Launch) (dC : Nat → ClassId) (dI : Nat → Nat → Nat) (cI cL cB : ClassId) (h_jo h_jB h_jo2 h_jB2 : Nat) (jo_steps : Int32) (jo_left : Int32) (jo_end : Int32) (jo_place : Int32) (jo_raised : Int32) (jo_result : Int64) (jB : (Nat → Int32)) (jo2_steps : Int32) (jo2_left : Int32) (jo2_end : Int32) (jo2_place : Int32) (jo2_raised : Int32) (jo2_result : Int64) (jB2 : (Nat → Int32)) (post : Int32 → Prop) (hw : wp_Jo_isLike post jo_steps jo_left jo_end jo_place jo_raised jo_result jB jo2_steps jo2_left jo2_end jo2_place jo2_raised jo2_result jB2) : Met l yJo_isLike wsJo_isLike ({ frames := 1, cells := 0, slots := 0, locals := 21 } : Room) (va_Pc [.ref h_jo, .ref h_jo2] (fun U => va_P (dC, dI) vwCl [(h_jo, .inr (1, [.ref h_jB, .int jo_steps, .int jo_left, .int jo_end, .int jo_place, .int jo_raised, .long jo_result])), (h_jB, .inl (cI, 1000, .inl jB)), (h_jo2, .inr (1, [.ref h_jB2, .int jo2_steps, .int jo2_left, .int jo2_end, .int jo2_place, .int jo2_raised, .long jo2_result])), (h_jB2, .inl (cI, 1000, .inl jB2))] U.heap ∧ KK dC dI cI cL cB U)) (ro_i post) 0 0 (fun _ => False) := by
  refine Met.ofW (cc := cJo_isLike) (maxL := 3) (ret := (some .boolean)) (by decide) rfl ?_
  intro p e s m args below meth c s₁ B hml hv
  obtain ⟨rfl, hP, hK⟩ := hv
  have hx := B.exec
  have hb := B.bytes
  have hr := B.returns
  have hts := atoms_spec (ws := wsJo_isLike) B.pre
  have hown : s.vm.findClass RJo = some m.cls := findClass_of_methodNamed B.named
  have hlocks := B.notSynchronized
  have hS : va_S (fun _ => False) s.heap s.heap [] := va_S.rf
  obtain ⟨Q, hQ⟩ : ∃ Q : State → Prop, Q = MQ below (ro_i post) ([.ref h_jo, .ref h_jo2] : List Value).toArray s 0 0 (fun _ => False) := ⟨_, rfl⟩
  rw [← hQ]
  have htb : ∀ w ∈ TB, w.before _ s = true := fun w h => hts w (List.mem_cons_of_mem _ h)
  have hf_9 := htb _ kw_154
  have hf_15 := htb _ kw_158
  have hf_19 := htb _ kw_155
  have hf_22 := htb _ kw_164
  have hf_32 := htb _ kw_162
  have hf_35 := htb _ kw_166
  have lp_70 : ∀ (n : Nat) (y2 : Int32), wl_Jo_isLike_70 post jo_steps jo_left jo_end jo_place jo_raised jo_result jB jo2_steps jo2_left jo2_end jo2_place jo2_raised jo2_result jB2 n y2 → ∀ (ls : Array Slot), lv_has ls 3 [(0, .ref h_jo), (1, .ref h_jo2), (2, .int y2)] → W p l e (headSpec wsJo_isLike ({ frames := 1, cells := 0, slots := 0, locals := 21 } : Room)).room s m ([.ref h_jo, .ref h_jo2] : List Value).toArray below meth c s.heap [] 0 0 Q (F0 m 70 ls []) := by
    intro n
    induction n with
    | zero => intro y2 hw; exact absurd hw id
    | succ n ih =>
      intro y2 hw ls hl
      refine lv_iload_n hx hb dJo_isLike_70 rfl (lv_at hl 2 rfl) ?_
      refine lv_aload_n hx hb dJo_isLike_71 rfl (lv_at hl 0 rfl) ?_
      refine va_get (D := (dC, dI)) (ci := 1) (v := .int jo_steps) (C := RJo) (T := TJo) (N := 7) hx hb htb in_Jo hown hK.1 hP 0 rfl rfl 1 (by decide) hf_19 (fun _ h9 => h9) rfl dJo_isLike_72 ?_
      refine lv_icmp_ge (tgt := 109) hx hb dJo_isLike_75 (by decide) (fun c_75 => ?_) (fun c_75 => ?_)
      · have hw := hw.1 c_75
        refine lv_iconst (v := 1) hx hb dJo_isLike_109 (by decide) ?_
        rw [hQ]
        exact W.zret (v := 1) hx hb hr (by decide) (fun t ht hW => ⟨_, rfl, hw, ht⟩) (fun q h => absurd h List.not_mem_nil) dJo_isLike_110
      · have hw := hw.2 c_75
        refine lv_iload_n hx hb dJo_isLike_78 rfl (lv_at hl 2 rfl) ?_
        refine lv_aload_n hx hb dJo_isLike_79 rfl (lv_at hl 0 rfl) ?_
        refine va_get (D := (dC, dI)) (ci := 1) (v := .ref h_jB) (C := RJo) (T := TJo) (N := 7) hx hb htb in_Jo hown hK.1 hP 0 rfl rfl 0 (by decide) hf_9 (fun _ h9 => h9) rfl dJo_isLike_80 ?_
        refine va_alen (v := 1000) hx hb hK.1 hP 1 0 rfl rfl (show Int32.ofNat 1000 = 1000 by decide +kernel) dJo_isLike_83 ?_
        refine lv_icmp_ge (tgt := 109) hx hb dJo_isLike_84 (by decide) (fun c_84 => ?_) (fun c_84 => ?_)
        · have hw := hw.1 c_84
          refine lv_iconst (v := 1) hx hb dJo_isLike_109 (by decide) ?_
          rw [hQ]
          exact W.zret (v := 1) hx hb hr (by decide) (fun t ht hW => ⟨_, rfl, hw, ht⟩) (fun q h => absurd h List.not_mem_nil) dJo_isLike_110
        · have hw := hw.2 c_84
          refine lv_aload_n hx hb dJo_isLike_87 rfl (lv_at hl 0 rfl) ?_
          refine va_get (D := (dC, dI)) (ci := 1) (v := .ref h_jB) (C := RJo) (T := TJo) (N := 7) hx hb htb in_Jo hown hK.1 hP 0 rfl rfl 0 (by decide) hf_9 (fun _ h9 => h9) rfl dJo_isLike_88 ?_
          refine lv_iload_n hx hb dJo_isLike_91 rfl (lv_at hl 2 rfl) ?_
          obtain ⟨hin, hw⟩ := hw
          refine va_iald hx hb hK.1 hP 1 0 rfl rfl hin dJo_isLike_92 ?_
          refine lv_aload_n hx hb dJo_isLike_93 rfl (lv_at hl 1 rfl) ?_
          refine lv_iload_n hx hb dJo_isLike_94 rfl (lv_at hl 2 rfl) ?_
          have hPc := hP.sub (ws' := [(h_jo2, .inr (1, [.ref h_jB2, .int jo2_steps, .int jo2_left, .int jo2_end, .int jo2_place, .int jo2_raised, .long jo2_result])), (h_jB2, .inl (cI, 1000, .inl jB2))]) [2, 3] rfl
          refine ro_ci (va_runV (As := [.int y2]) (rest := [.int (jB y2.toNatClampNeg)]) ⟨hx, hb, hml, hown, htb⟩ (met_Jo_begunAt l dC dI cI cL cB h_jo2 h_jB2 jo2_steps jo2_left jo2_end jo2_place jo2_raised jo2_result jB2 y2 _ hw) (cwV 1 htb (gdV kw_565 kw_531 kw_532 kw_44 kw_533) rfl rfl rfl (by decide +kernel) ⟨Nat.le_of_ble_eq_true rfl, Nat.le_of_ble_eq_true rfl⟩) ⟨fun a U g mk q => by obtain ⟨q0, qP, qK⟩ := q; exact ⟨q0, qP, KK_c qK⟩, va_recv hK.1 hP (ci := 1) (q0 := 2) rfl rfl, fun U hU hW => ⟨rfl, by rw [hU]; exact hPc, KK_w hW hK⟩⟩ rfl rfl hl.1 rfl (lv_room (Nat.le_of_ble_eq_true rfl)) dJo_isLike_95 ⟨Nat.zero_le _, Nat.zero_le _⟩) (fun r_95 hw => ?_)
          try dsimp only at hw
          refine lv_icmp_eq (tgt := 103) hx hb dJo_isLike_98 (by decide) (fun c_98 => ?_) (fun c_98 => ?_)
          · have hw := hw.1 c_98
            refine lv_iinc (v := (y2 + 1)) (lv' := [(2, .int (y2 + 1)), (0, .ref h_jo), (1, .ref h_jo2)]) hx hb dJo_isLike_103 hl (k := 2) rfl rfl (by decide) rfl (fun ls hl => ?_)
            refine lv_goto (tgt := 70) hx hb dJo_isLike_106 (by decide) ?_
            exact ih (y2 + 1) hw ls (lv_sub hl [1, 2, 0] rfl)
          · have hw := hw.2 c_98
            refine lv_iconst (v := 0) hx hb dJo_isLike_101 (by decide) ?_
            rw [hQ]
            exact W.zret (v := 0) hx hb hr (by decide) (fun t ht hW => ⟨_, rfl, hw, ht⟩) (fun q h => absurd h List.not_mem_nil) dJo_isLike_102
  have hl := lv_entry ([.ref h_jo, .ref h_jo2]) (n := 3) (Nat.le_of_ble_eq_true rfl)
  rw [lg_entry_eq]
  generalize (lg_sl ([.ref h_jo, .ref h_jo2]) ++ List.replicate (3 - (lg_sl ([.ref h_jo, .ref h_jo2])).length) Slot.unset).toArray = ls at hl ⊢
  have hl : lv_has ls 3 [(0, .ref h_jo), (1, .ref h_jo2)] := hl
  unfold wp_Jo_isLike at hw
  refine lv_aload_n hx hb dJo_isLike_0 rfl (lv_at hl 0 rfl) ?_
  refine va_get (D := (dC, dI)) (ci := 1) (v := .int jo_steps) (C := RJo) (T := TJo) (N := 7) hx hb htb in_Jo hown hK.1 hP 0 rfl rfl 1 (by decide) hf_19 (fun _ h9 => h9) rfl dJo_isLike_1 ?_
  refine lv_aload_n hx hb dJo_isLike_4 rfl (lv_at hl 1 rfl) ?_
  refine va_get (D := (dC, dI)) (ci := 1) (v := .int jo2_steps) (C := RJo) (T := TJo) (N := 7) hx hb htb in_Jo hown hK.1 hP 2 rfl rfl 1 (by decide) hf_19 (fun _ h9 => h9) rfl dJo_isLike_5 ?_
  refine lv_icmp_ne (tgt := 44) hx hb dJo_isLike_8 (by decide) (fun c_8 => ?_) (fun c_8 => ?_)
  · have hw := hw.1 c_8
    refine lv_iconst (v := 0) hx hb dJo_isLike_44 (by decide) ?_
    rw [hQ]
    exact W.zret (v := 0) hx hb hr (by decide) (fun t ht hW => ⟨_, rfl, hw, ht⟩) (fun q h => absurd h List.not_mem_nil) dJo_isLike_45
  · have hw := hw.2 c_8
    refine lv_aload_n hx hb dJo_isLike_11 rfl (lv_at hl 0 rfl) ?_
    refine va_get (D := (dC, dI)) (ci := 1) (v := .int jo_end) (C := RJo) (T := TJo) (N := 7) hx hb htb in_Jo hown hK.1 hP 0 rfl rfl 3 (by decide) hf_15 (fun _ h9 => h9) rfl dJo_isLike_12 ?_
    refine lv_aload_n hx hb dJo_isLike_15 rfl (lv_at hl 1 rfl) ?_
    refine va_get (D := (dC, dI)) (ci := 1) (v := .int jo2_end) (C := RJo) (T := TJo) (N := 7) hx hb htb in_Jo hown hK.1 hP 2 rfl rfl 3 (by decide) hf_15 (fun _ h9 => h9) rfl dJo_isLike_16 ?_
    refine lv_icmp_ne (tgt := 44) hx hb dJo_isLike_19 (by decide) (fun c_19 => ?_) (fun c_19 => ?_)
    · have hw := hw.1 c_19
      refine lv_iconst (v := 0) hx hb dJo_isLike_44 (by decide) ?_
      rw [hQ]
      exact W.zret (v := 0) hx hb hr (by decide) (fun t ht hW => ⟨_, rfl, hw, ht⟩) (fun q h => absurd h List.not_mem_nil) dJo_isLike_45
    · have hw := hw.2 c_19
      refine lv_aload_n hx hb dJo_isLike_22 rfl (lv_at hl 0 rfl) ?_
      refine va_get (D := (dC, dI)) (ci := 1) (v := .int jo_place) (C := RJo) (T := TJo) (N := 7) hx hb htb in_Jo hown hK.1 hP 0 rfl rfl 4 (by decide) hf_32 (fun _ h9 => h9) rfl dJo_isLike_23 ?_
      refine lv_aload_n hx hb dJo_isLike_26 rfl (lv_at hl 1 rfl) ?_
      refine va_get (D := (dC, dI)) (ci := 1) (v := .int jo2_place) (C := RJo) (T := TJo) (N := 7) hx hb htb in_Jo hown hK.1 hP 2 rfl rfl 4 (by decide) hf_32 (fun _ h9 => h9) rfl dJo_isLike_27 ?_
      refine lv_icmp_ne (tgt := 44) hx hb dJo_isLike_30 (by decide) (fun c_30 => ?_) (fun c_30 => ?_)
      · have hw := hw.1 c_30
        refine lv_iconst (v := 0) hx hb dJo_isLike_44 (by decide) ?_
        rw [hQ]
        exact W.zret (v := 0) hx hb hr (by decide) (fun t ht hW => ⟨_, rfl, hw, ht⟩) (fun q h => absurd h List.not_mem_nil) dJo_isLike_45
      · have hw := hw.2 c_30
        refine lv_aload_n hx hb dJo_isLike_33 rfl (lv_at hl 0 rfl) ?_
        refine va_get (D := (dC, dI)) (ci := 1) (v := .int jo_raised) (C := RJo) (T := TJo) (N := 7) hx hb htb in_Jo hown hK.1 hP 0 rfl rfl 5 (by decide) hf_22 (fun _ h9 => h9) rfl dJo_isLike_34 ?_
        refine lv_aload_n hx hb dJo_isLike_37 rfl (lv_at hl 1 rfl) ?_
        refine va_get (D := (dC, dI)) (ci := 1) (v := .int jo2_raised) (C := RJo) (T := TJo) (N := 7) hx hb htb in_Jo hown hK.1 hP 2 rfl rfl 5 (by decide) hf_22 (fun _ h9 => h9) rfl dJo_isLike_38 ?_
        refine lv_icmp_eq (tgt := 46) hx hb dJo_isLike_41 (by decide) (fun c_41 => ?_) (fun c_41 => ?_)
        · have hw := hw.1 c_41
          refine lv_aload_n hx hb dJo_isLike_46 rfl (lv_at hl 0 rfl) ?_
          refine va_get (D := (dC, dI)) (ci := 1) (v := .int jo_end) (C := RJo) (T := TJo) (N := 7) hx hb htb in_Jo hown hK.1 hP 0 rfl rfl 3 (by decide) hf_15 (fun _ h9 => h9) rfl dJo_isLike_47 ?_
          refine lv_iconst (v := 1) hx hb dJo_isLike_50 (by decide) ?_
          refine lv_icmp_ne (tgt := 68) hx hb dJo_isLike_51 (by decide) (fun c_51 => ?_) (fun c_51 => ?_)
          · have hw := hw.1 c_51
            refine lv_iconst (v := 0) hx hb dJo_isLike_68 (by decide) ?_
            refine lv_istore_n (lv' := [(2, .int 0), (0, .ref h_jo), (1, .ref h_jo2)]) hx hb dJo_isLike_69 rfl hl (by decide) rfl (fun ls hl => ?_)
            obtain ⟨n9, hw⟩ := hw
            exact lp_70 n9 0 hw ls (lv_sub hl [1, 2, 0] rfl)
          · have hw := hw.2 c_51
            refine lv_aload_n hx hb dJo_isLike_54 rfl (lv_at hl 0 rfl) ?_
            refine va_get (D := (dC, dI)) (ci := 1) (v := .long jo_result) (C := RJo) (T := TJo) (N := 7) hx hb htb in_Jo hown hK.1 hP 0 rfl rfl 6 (by decide) hf_35 (fun _ h9 => h9) rfl dJo_isLike_55 ?_
            refine lv_aload_n hx hb dJo_isLike_58 rfl (lv_at hl 1 rfl) ?_
            refine va_get (D := (dC, dI)) (ci := 1) (v := .long jo2_result) (C := RJo) (T := TJo) (N := 7) hx hb htb in_Jo hown hK.1 hP 2 rfl rfl 6 (by decide) hf_35 (fun _ h9 => h9) rfl dJo_isLike_59 ?_
            refine W.lcmp hx hb dJo_isLike_62 ?_
            refine lv_if_eq (tgt := 68) hx hb dJo_isLike_63 (by decide) (fun c_63 => ?_) (fun c_63 => ?_)
            · have hw := hw.1 c_63
              refine lv_iconst (v := 0) hx hb dJo_isLike_68 (by decide) ?_
              refine lv_istore_n (lv' := [(2, .int 0), (0, .ref h_jo), (1, .ref h_jo2)]) hx hb dJo_isLike_69 rfl hl (by decide) rfl (fun ls hl => ?_)
              obtain ⟨n9, hw⟩ := hw
              exact lp_70 n9 0 hw ls (lv_sub hl [1, 2, 0] rfl)
            · have hw := hw.2 c_63
              refine lv_iconst (v := 0) hx hb dJo_isLike_66 (by decide) ?_
              rw [hQ]
              exact W.zret (v := 0) hx hb hr (by decide) (fun t ht hW => ⟨_, rfl, hw, ht⟩) (fun q h => absurd h List.not_mem_nil) dJo_isLike_67
        · have hw := hw.2 c_41
          refine lv_iconst (v := 0) hx hb dJo_isLike_44 (by decide) ?_
          rw [hQ]
          exact W.zret (v := 0) hx hb hr (by decide) (fun t ht hW => ⟨_, rfl, hw, ht⟩) (fun q h => absurd h List.not_mem_nil) dJo_isLike_45
