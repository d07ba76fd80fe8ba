def wp_Sc_keep (post : (Nat → Int64) → Prop) (sc_cells : Int32) (sW : (Nat → Int32)) (sV : (Nat → Int64)) (a1 : Int32) (a2 : Int64) : Prop := ((a1 < 0 → (post sV)) ∧ (¬ a1 < 0 → ((a1 < sc_cells → (vp_in a1 40 ∧ (((sW a1.toNatClampNeg) < 1 → (((lg_cmp 0 0) ≤ 0 → (vp_in a1 40 ∧ (post (vp_updL sV a1.toNatClampNeg 0)))) ∧ (¬ (lg_cmp 0 0) ≤ 0 → (¬ (0 : Int64) = 0 ∧ (vp_in a1 40 ∧ (post (vp_updL sV a1.toNatClampNeg (a2 - a2 / 0 * 0)))))))) ∧ (¬ (sW a1.toNatClampNeg) < 1 → ((18 < (sW a1.toNatClampNeg) → (((lg_cmp 0 0) ≤ 0 → (vp_in a1 40 ∧ (post (vp_updL sV a1.toNatClampNeg 0)))) ∧ (¬ (lg_cmp 0 0) ≤ 0 → (¬ (0 : Int64) = 0 ∧ (vp_in a1 40 ∧ (post (vp_updL sV a1.toNatClampNeg (a2 - a2 / 0 * 0)))))))) ∧ (¬ 18 < (sW a1.toNatClampNeg) → (vp_in (sW a1.toNatClampNeg) 19 ∧ (∀ x5_44 : Int64, x5_44 = (tTN (sW a1.toNatClampNeg).toNatClampNeg) → (((lg_cmp x5_44 0) ≤ 0 → (vp_in a1 40 ∧ (post (vp_updL sV a1.toNatClampNeg 0)))) ∧ (¬ (lg_cmp x5_44 0) ≤ 0 → (¬ (x5_44 : Int64) = 0 ∧ (vp_in a1 40 ∧ (post (vp_updL sV a1.toNatClampNeg (a2 - a2 / x5_44 * x5_44))))))))))))))) ∧ (¬ a1 < sc_cells → (post sV)))))
set_option maxHeartbeats 4000000 in
set_option maxRecDepth 100000 in
theorem met_Sc_keep (l : Launch) (dC : Nat → ClassId) (dI : Nat → Nat → Nat) (cI cL cB : ClassId) (sz : Nat) (h_sc h_sW h_sV h_sT : Nat) (t_TENS : Nat) (sc_cells : Int32) (sW : (Nat → Int32)) (sV : (Nat → Int64)) (a1 : Int32) (a2 : Int64) (post : (Nat → Int64) → Prop) (hw : wp_Sc_keep post sc_cells sW sV a1 a2) : Met l ySc_keep wsSc_keep ({ frames := 0, cells := 0, slots := 0, locals := 0 } : Room) (va_Pc [.ref h_sc, .int a1, .long a2] (fun U => U.heap.size = sz ∧ va_P (dC, dI) vwCl [(h_sc, .inr (5, [.ref h_sW, .ref h_sV, .ref h_sT, .int sc_cells])), (h_sW, .inl (cI, 40, .inl sW)), (h_sV, .inl (cL, 40, .inr (.inl sV)))] U.heap ∧ KK dC dI cI cL cB U ∧ va_D (fun _ => True) [(h_sc, .inr (5, [.ref h_sW, .ref h_sV, .ref h_sT, .int sc_cells])), (h_sW, .inl (cI, 40, .inl sW)), (h_sV, .inl (cL, 40, .inr (.inl sV)))] ∧ va_Z "ParagraphWalk" "TENS" "[J" (.ref t_TENS) (va_A [(h_sc, .inr (5, [.ref h_sW, .ref h_sV, .ref h_sT, .int sc_cells])), (h_sW, .inl (cI, 40, .inl sW)), (h_sV, .inl (cL, 40, .inr (.inl sV)))] sz) U U.heap ∧ va_T .long t_TENS 19 (fun j => .long (tTN j)) (va_A [(h_sc, .inr (5, [.ref h_sW, .ref h_sV, .ref h_sT, .int sc_cells])), (h_sW, .inl (cI, 40, .inl sW)), (h_sV, .inl (cL, 40, .inr (.inl sV)))] sz) U U.heap)) (va_Qv (fun (u : (Nat → Int64)) => post u) (fun (u : (Nat → Int64)) t => va_P (dC, dI) vwCl [(h_sc, .inr (5, [.ref h_sW, .ref h_sV, .ref h_sT, .int sc_cells])), (h_sW, .inl (cI, 40, .inl sW)), (h_sV, .inl (cL, 40, .inr (.inl u)))] t.heap ∧ va_D (va_A [(h_sc, .inr (5, [.ref h_sW, .ref h_sV, .ref h_sT, .int sc_cells])), (h_sW, .inl (cI, 40, .inl sW)), (h_sV, .inl (cL, 40, .inr (.inl sV)))] sz) [(h_sc, .inr (5, [.ref h_sW, .ref h_sV, .ref h_sT, .int sc_cells])), (h_sW, .inl (cI, 40, .inl sW)), (h_sV, .inl (cL, 40, .inr (.inl u)))]) (va_A [(h_sc, .inr (5, [.ref h_sW, .ref h_sV, .ref h_sT, .int sc_cells])), (h_sW, .inl (cI, 40, .inl sW)), (h_sV, .inl (cL, 40, .inr (.inl sV)))] sz)) 0 0 (va_A [(h_sc, .inr (5, [.ref h_sW, .ref h_sV, .ref h_sT, .int sc_cells])), (h_sW, .inl (cI, 40, .inl sW)), (h_sV, .inl (cL, 40, .inr (.inl sV)))] sz) := by
  refine Met.ofW (cc := cSc_keep) (maxL := 7) (ret := none) (by decide) rfl ?_
  intro p e s m args below meth c s₁ B hml hv
  obtain ⟨rfl, hsz, hP, hK, hD0, hZ_TENS, hT_TENS⟩ := hv
  have hx := B.exec
  have hb := B.bytes
  have hr := B.returns
  have hts := atoms_spec (ws := wsSc_keep) B.pre
  have hown : s.vm.findClass RSc = some m.cls := findClass_of_methodNamed B.named
  have hlocks := B.notSynchronized
  subst hsz
  have hD := hD0.self (sz := s.heap.size)
  generalize hAe : va_A [(h_sc, .inr (5, [.ref h_sW, .ref h_sV, .ref h_sT, .int sc_cells])), (h_sW, .inl (cI, 40, .inl sW)), (h_sV, .inl (cL, 40, .inr (.inl sV)))] s.heap.size = A at hD hZ_TENS hT_TENS ⊢
  have hA : ∀ q : Nat, s.heap.size ≤ q → A q := fun q h => by rw [← hAe]; exact Or.inr h
  have hS : va_S A s.heap s.heap [] := va_S.rf
  have hP : va_P (dC, dI) vwCl [(h_sc, .inr (5, [.ref h_sW, .ref h_sV, .ref h_sT, .int sc_cells])), (h_sW, .inl (cI, 40, .inl sW)), (h_sV, .inl (cL, 40, .inr (.inl sV)))] s.heap := hP
  have htb : ∀ w ∈ TB, w.before _ s = true := fun w h => hts w (List.mem_cons_of_mem _ h)
  have hf_9 := htb _ kw_133
  have hf_15 := htb _ kw_134
  have hf_22 := htb _ kw_136
  have hl := lv_entry ([.ref h_sc, .int a1, .long a2]) (n := 7) (Nat.le_of_ble_eq_true rfl)
  rw [lg_entry_eq]
  generalize (lg_sl ([.ref h_sc, .int a1, .long a2]) ++ List.replicate (7 - (lg_sl ([.ref h_sc, .int a1, .long a2])).length) Slot.unset).toArray = ls at hl ⊢
  have hl : lv_has ls 7 [(0, .ref h_sc), (1, .int a1), (2, .long a2)] := hl
  unfold wp_Sc_keep at hw
  refine lv_iload_n hx hb dSc_keep_0 rfl (lv_at hl 1 rfl) ?_
  refine lv_if_lt (tgt := 12) hx hb dSc_keep_1 (by decide) (fun c_1 => ?_) (fun c_1 => ?_)
  · have hw := hw.1 c_1
    have hP9 := hP.sub (ws' := [(h_sc, .inr (5, [.ref h_sW, .ref h_sV, .ref h_sT, .int sc_cells])), (h_sW, .inl (cI, 40, .inl sW)), (h_sV, .inl (cL, 40, .inr (.inl sV)))]) [0, 1, 2] rfl
    have hD9 := hD.sub (ws' := [(h_sc, .inr (5, [.ref h_sW, .ref h_sV, .ref h_sT, .int sc_cells])), (h_sW, .inl (cI, 40, .inl sW)), (h_sV, .inl (cL, 40, .inr (.inl sV)))]) [0, 1, 2] (by decide) rfl
    exact W.vret hx hb hr (fun t ht hW => ⟨⟨sV, rfl, hw, by rw [ht]; exact hP9, hD9⟩, hS.F ht⟩) hS.2.2 dSc_keep_12
  · have hw := hw.2 c_1
    refine lv_iload_n hx hb dSc_keep_4 rfl (lv_at hl 1 rfl) ?_
    refine lv_aload_n hx hb dSc_keep_5 rfl (lv_at hl 0 rfl) ?_
    refine va_get (D := (dC, dI)) (ci := 5) (v := .int sc_cells) (C := RSc) (T := TSc) (N := 4) hx hb htb in_Sc hown hK.1 hP 0 rfl rfl 3 (by decide) hf_22 (fun _ h9 => h9) rfl dSc_keep_6 ?_
    refine lv_icmp_lt (tgt := 13) hx hb dSc_keep_9 (by decide) (fun c_9 => ?_) (fun c_9 => ?_)
    · have hw := hw.1 c_9
      refine lv_aload_n hx hb dSc_keep_13 rfl (lv_at hl 0 rfl) ?_
      refine va_get (D := (dC, dI)) (ci := 5) (v := .ref h_sW) (C := RSc) (T := TSc) (N := 4) hx hb htb in_Sc hown hK.1 hP 0 rfl rfl 0 (by decide) hf_9 (fun _ h9 => h9) rfl dSc_keep_14 ?_
      refine lv_iload_n hx hb dSc_keep_17 rfl (lv_at hl 1 rfl) ?_
      obtain ⟨hin, hw⟩ := hw
      refine va_iald hx hb hK.1 hP 1 0 rfl rfl hin dSc_keep_18 ?_
      refine lv_istore (lv' := [(4, .int (sW a1.toNatClampNeg)), (0, .ref h_sc), (1, .int a1), (2, .long a2)]) hx hb dSc_keep_19 hl (by decide) rfl (fun ls hl => ?_)
      refine lv_iload hx hb dSc_keep_21 (lv_at hl 0 rfl) ?_
      refine lv_iconst (v := 1) hx hb dSc_keep_23 (by decide) ?_
      refine lv_icmp_lt (tgt := 43) hx hb dSc_keep_24 (by decide) (fun c_24 => ?_) (fun c_24 => ?_)
      · have hw := hw.1 c_24
        refine lv_lconst (v := 0) hx hb dSc_keep_43 (by decide) ?_
        refine lv_lstore (lv' := [(5, .long 0), (4, .int (sW a1.toNatClampNeg)), (0, .ref h_sc), (1, .int a1), (2, .long a2)]) hx hb dSc_keep_44 hl (by decide) rfl (fun ls hl => ?_)
        refine lv_aload_n hx hb dSc_keep_46 rfl (lv_at hl 2 rfl) ?_
        refine va_get (D := (dC, dI)) (ci := 5) (v := .ref h_sV) (C := RSc) (T := TSc) (N := 4) hx hb htb in_Sc hown hK.1 hP 0 rfl rfl 1 (by decide) hf_15 (fun _ h9 => h9) rfl dSc_keep_47 ?_
        refine lv_iload_n hx hb dSc_keep_50 rfl (lv_at hl 3 rfl) ?_
        refine lv_lload hx hb dSc_keep_51 (lv_at hl 0 rfl) ?_
        refine lv_lconst (v := 0) hx hb dSc_keep_53 (by decide) ?_
        refine W.lcmp hx hb dSc_keep_54 ?_
        refine lv_if_le (tgt := 65) hx hb dSc_keep_55 (by decide) (fun c_55 => ?_) (fun c_55 => ?_)
        · have hw := hw.1 c_55
          refine lv_lconst (v := 0) hx hb dSc_keep_65 (by decide) ?_
          obtain ⟨hin, hw⟩ := hw
          refine va_last hx hb hK.1 hP hD hS 2 1 rfl rfl hin dSc_keep_66 (fun H locs hP hD hS => ?_)
          have hP : va_P (dC, dI) vwCl [(h_sc, .inr (5, [.ref h_sW, .ref h_sV, .ref h_sT, .int sc_cells])), (h_sW, .inl (cI, 40, .inl sW)), (h_sV, .inl (cL, 40, .inr (.inl (vp_updL sV a1.toNatClampNeg 0))))] H := hP
          have hD : va_D A [(h_sc, .inr (5, [.ref h_sW, .ref h_sV, .ref h_sT, .int sc_cells])), (h_sW, .inl (cI, 40, .inl sW)), (h_sV, .inl (cL, 40, .inr (.inl (vp_updL sV a1.toNatClampNeg 0))))] := hD
          have hP9 := hP.sub (ws' := [(h_sc, .inr (5, [.ref h_sW, .ref h_sV, .ref h_sT, .int sc_cells])), (h_sW, .inl (cI, 40, .inl sW)), (h_sV, .inl (cL, 40, .inr (.inl (vp_updL sV a1.toNatClampNeg 0))))]) [0, 1, 2] rfl
          have hD9 := hD.sub (ws' := [(h_sc, .inr (5, [.ref h_sW, .ref h_sV, .ref h_sT, .int sc_cells])), (h_sW, .inl (cI, 40, .inl sW)), (h_sV, .inl (cL, 40, .inr (.inl (vp_updL sV a1.toNatClampNeg 0))))]) [0, 1, 2] (by decide) rfl
          exact W.vret hx hb hr (fun t ht hW => ⟨⟨(vp_updL sV a1.toNatClampNeg 0), rfl, hw, by rw [ht]; exact hP9, hD9⟩, hS.F ht⟩) hS.2.2 dSc_keep_67
        · have hw := hw.2 c_55
          refine lv_lload_n hx hb dSc_keep_58 rfl (lv_at hl 4 rfl) ?_
          refine lv_lload hx hb dSc_keep_59 (lv_at hl 0 rfl) ?_
          obtain ⟨hne, hw⟩ := hw
          refine lv_lrem hx hb dSc_keep_61 hne ?_
          refine lv_goto (tgt := 66) hx hb dSc_keep_62 (by decide) ?_
          obtain ⟨hin, hw⟩ := hw
          refine va_last hx hb hK.1 hP hD hS 2 1 rfl rfl hin dSc_keep_66 (fun H locs hP hD hS => ?_)
          have hP : va_P (dC, dI) vwCl [(h_sc, .inr (5, [.ref h_sW, .ref h_sV, .ref h_sT, .int sc_cells])), (h_sW, .inl (cI, 40, .inl sW)), (h_sV, .inl (cL, 40, .inr (.inl (vp_updL sV a1.toNatClampNeg (a2 - a2 / 0 * 0)))))] H := hP
          have hD : va_D A [(h_sc, .inr (5, [.ref h_sW, .ref h_sV, .ref h_sT, .int sc_cells])), (h_sW, .inl (cI, 40, .inl sW)), (h_sV, .inl (cL, 40, .inr (.inl (vp_updL sV a1.toNatClampNeg (a2 - a2 / 0 * 0)))))] := hD
          have hP9 := hP.sub (ws' := [(h_sc, .inr (5, [.ref h_sW, .ref h_sV, .ref h_sT, .int sc_cells])), (h_sW, .inl (cI, 40, .inl sW)), (h_sV, .inl (cL, 40, .inr (.inl (vp_updL sV a1.toNatClampNeg (a2 - a2 / 0 * 0)))))]) [0, 1, 2] rfl
          have hD9 := hD.sub (ws' := [(h_sc, .inr (5, [.ref h_sW, .ref h_sV, .ref h_sT, .int sc_cells])), (h_sW, .inl (cI, 40, .inl sW)), (h_sV, .inl (cL, 40, .inr (.inl (vp_updL sV a1.toNatClampNeg (a2 - a2 / 0 * 0)))))]) [0, 1, 2] (by decide) rfl
          exact W.vret hx hb hr (fun t ht hW => ⟨⟨(vp_updL sV a1.toNatClampNeg (a2 - a2 / 0 * 0)), rfl, hw, by rw [ht]; exact hP9, hD9⟩, hS.F ht⟩) hS.2.2 dSc_keep_67
      · have hw := hw.2 c_24
        refine lv_iload hx hb dSc_keep_27 (lv_at hl 0 rfl) ?_
        refine lv_bipush (v := 18) hx hb dSc_keep_29 (by decide +kernel) ?_
        refine lv_icmp_gt (tgt := 43) hx hb dSc_keep_31 (by decide) (fun c_31 => ?_) (fun c_31 => ?_)
        · have hw := hw.1 c_31
          refine lv_lconst (v := 0) hx hb dSc_keep_43 (by decide) ?_
          refine lv_lstore (lv' := [(5, .long 0), (4, .int (sW a1.toNatClampNeg)), (0, .ref h_sc), (1, .int a1), (2, .long a2)]) hx hb dSc_keep_44 hl (by decide) rfl (fun ls hl => ?_)
          refine lv_aload_n hx hb dSc_keep_46 rfl (lv_at hl 2 rfl) ?_
          refine va_get (D := (dC, dI)) (ci := 5) (v := .ref h_sV) (C := RSc) (T := TSc) (N := 4) hx hb htb in_Sc hown hK.1 hP 0 rfl rfl 1 (by decide) hf_15 (fun _ h9 => h9) rfl dSc_keep_47 ?_
          refine lv_iload_n hx hb dSc_keep_50 rfl (lv_at hl 3 rfl) ?_
          refine lv_lload hx hb dSc_keep_51 (lv_at hl 0 rfl) ?_
          refine lv_lconst (v := 0) hx hb dSc_keep_53 (by decide) ?_
          refine W.lcmp hx hb dSc_keep_54 ?_
          refine lv_if_le (tgt := 65) hx hb dSc_keep_55 (by decide) (fun c_55 => ?_) (fun c_55 => ?_)
          · have hw := hw.1 c_55
            refine lv_lconst (v := 0) hx hb dSc_keep_65 (by decide) ?_
            obtain ⟨hin, hw⟩ := hw
            refine va_last hx hb hK.1 hP hD hS 2 1 rfl rfl hin dSc_keep_66 (fun H locs hP hD hS => ?_)
            have hP : va_P (dC, dI) vwCl [(h_sc, .inr (5, [.ref h_sW, .ref h_sV, .ref h_sT, .int sc_cells])), (h_sW, .inl (cI, 40, .inl sW)), (h_sV, .inl (cL, 40, .inr (.inl (vp_updL sV a1.toNatClampNeg 0))))] H := hP
            have hD : va_D A [(h_sc, .inr (5, [.ref h_sW, .ref h_sV, .ref h_sT, .int sc_cells])), (h_sW, .inl (cI, 40, .inl sW)), (h_sV, .inl (cL, 40, .inr (.inl (vp_updL sV a1.toNatClampNeg 0))))] := hD
            have hP9 := hP.sub (ws' := [(h_sc, .inr (5, [.ref h_sW, .ref h_sV, .ref h_sT, .int sc_cells])), (h_sW, .inl (cI, 40, .inl sW)), (h_sV, .inl (cL, 40, .inr (.inl (vp_updL sV a1.toNatClampNeg 0))))]) [0, 1, 2] rfl
            have hD9 := hD.sub (ws' := [(h_sc, .inr (5, [.ref h_sW, .ref h_sV, .ref h_sT, .int sc_cells])), (h_sW, .inl (cI, 40, .inl sW)), (h_sV, .inl (cL, 40, .inr (.inl (vp_updL sV a1.toNatClampNeg 0))))]) [0, 1, 2] (by decide) rfl
            exact W.vret hx hb hr (fun t ht hW => ⟨⟨(vp_updL sV a1.toNatClampNeg 0), rfl, hw, by rw [ht]; exact hP9, hD9⟩, hS.F ht⟩) hS.2.2 dSc_keep_67
          · have hw := hw.2 c_55
            refine lv_lload_n hx hb dSc_keep_58 rfl (lv_at hl 4 rfl) ?_
            refine lv_lload hx hb dSc_keep_59 (lv_at hl 0 rfl) ?_
            obtain ⟨hne, hw⟩ := hw
            refine lv_lrem hx hb dSc_keep_61 hne ?_
            refine lv_goto (tgt := 66) hx hb dSc_keep_62 (by decide) ?_
            obtain ⟨hin, hw⟩ := hw
            refine va_last hx hb hK.1 hP hD hS 2 1 rfl rfl hin dSc_keep_66 (fun H locs hP hD hS => ?_)
            have hP : va_P (dC, dI) vwCl [(h_sc, .inr (5, [.ref h_sW, .ref h_sV, .ref h_sT, .int sc_cells])), (h_sW, .inl (cI, 40, .inl sW)), (h_sV, .inl (cL, 40, .inr (.inl (vp_updL sV a1.toNatClampNeg (a2 - a2 / 0 * 0)))))] H := hP
            have hD : va_D A [(h_sc, .inr (5, [.ref h_sW, .ref h_sV, .ref h_sT, .int sc_cells])), (h_sW, .inl (cI, 40, .inl sW)), (h_sV, .inl (cL, 40, .inr (.inl (vp_updL sV a1.toNatClampNeg (a2 - a2 / 0 * 0)))))] := hD
            have hP9 := hP.sub (ws' := [(h_sc, .inr (5, [.ref h_sW, .ref h_sV, .ref h_sT, .int sc_cells])), (h_sW, .inl (cI, 40, .inl sW)), (h_sV, .inl (cL, 40, .inr (.inl (vp_updL sV a1.toNatClampNeg (a2 - a2 / 0 * 0)))))]) [0, 1, 2] rfl
            have hD9 := hD.sub (ws' := [(h_sc, .inr (5, [.ref h_sW, .ref h_sV, .ref h_sT, .int sc_cells])), (h_sW, .inl (cI, 40, .inl sW)), (h_sV, .inl (cL, 40, .inr (.inl (vp_updL sV a1.toNatClampNeg (a2 - a2 / 0 * 0)))))]) [0, 1, 2] (by decide) rfl
            exact W.vret hx hb hr (fun t ht hW => ⟨⟨(vp_updL sV a1.toNatClampNeg (a2 - a2 / 0 * 0)), rfl, hw, by rw [ht]; exact hP9, hD9⟩, hS.F ht⟩) hS.2.2 dSc_keep_67
        · have hw := hw.2 c_31
          refine va_getsN hx hb hZ_TENS hS hown (va_Nw.use rfl (hK.2 _ nw_17)) (fun _ h9 => h9) dSc_keep_34 ?_
          refine lv_iload hx hb dSc_keep_37 (lv_at hl 0 rfl) ?_
          obtain ⟨hin, hw⟩ := hw
          refine va_tl hx hb hT_TENS hS hin rfl dSc_keep_39 ?_
          refine lv_goto (tgt := 44) hx hb dSc_keep_40 (by decide) ?_
          refine lv_topl (fun x5_44 ex5_44 => ?_)
          have hw := hw x5_44 ex5_44
          refine lv_lstore (lv' := [(5, .long x5_44), (4, .int (sW a1.toNatClampNeg)), (0, .ref h_sc), (1, .int a1), (2, .long a2)]) hx hb dSc_keep_44 hl (by decide) rfl (fun ls hl => ?_)
          refine lv_aload_n hx hb dSc_keep_46 rfl (lv_at hl 2 rfl) ?_
          refine va_get (D := (dC, dI)) (ci := 5) (v := .ref h_sV) (C := RSc) (T := TSc) (N := 4) hx hb htb in_Sc hown hK.1 hP 0 rfl rfl 1 (by decide) hf_15 (fun _ h9 => h9) rfl dSc_keep_47 ?_
          refine lv_iload_n hx hb dSc_keep_50 rfl (lv_at hl 3 rfl) ?_
          refine lv_lload hx hb dSc_keep_51 (lv_at hl 0 rfl) ?_
          refine lv_lconst (v := 0) hx hb dSc_keep_53 (by decide) ?_
          refine W.lcmp hx hb dSc_keep_54 ?_
          refine lv_if_le (tgt := 65) hx hb dSc_keep_55 (by decide) (fun c_55 => ?_) (fun c_55 => ?_)
          · have hw := hw.1 c_55
            refine lv_lconst (v := 0) hx hb dSc_keep_65 (by decide) ?_
            obtain ⟨hin, hw⟩ := hw
            refine va_last hx hb hK.1 hP hD hS 2 1 rfl rfl hin dSc_keep_66 (fun H locs hP hD hS => ?_)
            have hP : va_P (dC, dI) vwCl [(h_sc, .inr (5, [.ref h_sW, .ref h_sV, .ref h_sT, .int sc_cells])), (h_sW, .inl (cI, 40, .inl sW)), (h_sV, .inl (cL, 40, .inr (.inl (vp_updL sV a1.toNatClampNeg 0))))] H := hP
            have hD : va_D A [(h_sc, .inr (5, [.ref h_sW, .ref h_sV, .ref h_sT, .int sc_cells])), (h_sW, .inl (cI, 40, .inl sW)), (h_sV, .inl (cL, 40, .inr (.inl (vp_updL sV a1.toNatClampNeg 0))))] := hD
            have hP9 := hP.sub (ws' := [(h_sc, .inr (5, [.ref h_sW, .ref h_sV, .ref h_sT, .int sc_cells])), (h_sW, .inl (cI, 40, .inl sW)), (h_sV, .inl (cL, 40, .inr (.inl (vp_updL sV a1.toNatClampNeg 0))))]) [0, 1, 2] rfl
            have hD9 := hD.sub (ws' := [(h_sc, .inr (5, [.ref h_sW, .ref h_sV, .ref h_sT, .int sc_cells])), (h_sW, .inl (cI, 40, .inl sW)), (h_sV, .inl (cL, 40, .inr (.inl (vp_updL sV a1.toNatClampNeg 0))))]) [0, 1, 2] (by decide) rfl
            exact W.vret hx hb hr (fun t ht hW => ⟨⟨(vp_updL sV a1.toNatClampNeg 0), rfl, hw, by rw [ht]; exact hP9, hD9⟩, hS.F ht⟩) hS.2.2 dSc_keep_67
          · have hw := hw.2 c_55
            refine lv_lload_n hx hb dSc_keep_58 rfl (lv_at hl 4 rfl) ?_
            refine lv_lload hx hb dSc_keep_59 (lv_at hl 0 rfl) ?_
            obtain ⟨hne, hw⟩ := hw
            refine lv_lrem hx hb dSc_keep_61 hne ?_
            refine lv_goto (tgt := 66) hx hb dSc_keep_62 (by decide) ?_
            obtain ⟨hin, hw⟩ := hw
            refine va_last hx hb hK.1 hP hD hS 2 1 rfl rfl hin dSc_keep_66 (fun H locs hP hD hS => ?_)
            have hP : va_P (dC, dI) vwCl [(h_sc, .inr (5, [.ref h_sW, .ref h_sV, .ref h_sT, .int sc_cells])), (h_sW, .inl (cI, 40, .inl sW)), (h_sV, .inl (cL, 40, .inr (.inl (vp_updL sV a1.toNatClampNeg (a2 - a2 / x5_44 * x5_44)))))] H := hP
            have hD : va_D A [(h_sc, .inr (5, [.ref h_sW, .ref h_sV, .ref h_sT, .int sc_cells])), (h_sW, .inl (cI, 40, .inl sW)), (h_sV, .inl (cL, 40, .inr (.inl (vp_updL sV a1.toNatClampNeg (a2 - a2 / x5_44 * x5_44)))))] := hD
            have hP9 := hP.sub (ws' := [(h_sc, .inr (5, [.ref h_sW, .ref h_sV, .ref h_sT, .int sc_cells])), (h_sW, .inl (cI, 40, .inl sW)), (h_sV, .inl (cL, 40, .inr (.inl (vp_updL sV a1.toNatClampNeg (a2 - a2 / x5_44 * x5_44)))))]) [0, 1, 2] rfl
            have hD9 := hD.sub (ws' := [(h_sc, .inr (5, [.ref h_sW, .ref h_sV, .ref h_sT, .int sc_cells])), (h_sW, .inl (cI, 40, .inl sW)), (h_sV, .inl (cL, 40, .inr (.inl (vp_updL sV a1.toNatClampNeg (a2 - a2 / x5_44 * x5_44)))))]) [0, 1, 2] (by decide) rfl
            exact W.vret hx hb hr (fun t ht hW => ⟨⟨(vp_updL sV a1.toNatClampNeg (a2 - a2 / x5_44 * x5_44)), rfl, hw, by rw [ht]; exact hP9, hD9⟩, hS.F ht⟩) hS.2.2 dSc_keep_67
    · have hw := hw.2 c_9
      have hP9 := hP.sub (ws' := [(h_sc, .inr (5, [.ref h_sW, .ref h_sV, .ref h_sT, .int sc_cells])), (h_sW, .inl (cI, 40, .inl sW)), (h_sV, .inl (cL, 40, .inr (.inl sV)))]) [0, 1, 2] rfl
      have hD9 := hD.sub (ws' := [(h_sc, .inr (5, [.ref h_sW, .ref h_sV, .ref h_sT, .int sc_cells])), (h_sW, .inl (cI, 40, .inl sW)), (h_sV, .inl (cL, 40, .inr (.inl sV)))]) [0, 1, 2] (by decide) rfl
      exact W.vret hx hb hr (fun t ht hW => ⟨⟨sV, rfl, hw, by rw [ht]; exact hP9, hD9⟩, hS.F ht⟩) hS.2.2 dSc_keep_12
def wp_Sc_addCell (post : Int32 → Int32 → (Nat → Int32) → (Nat → Int64) → Prop) (sc_cells : Int32) (sW : (Nat → Int32)) (sV : (Nat → Int64)) (a1 : Int32) (a2 : Int64) : Prop := ((a1 < 1 → (post (-4) sc_cells sW sV)) ∧ (¬ a1 < 1 → ((a1 ≤ 18 → ((sc_cells < 40 → (vp_in sc_cells 40 ∧ (wp_Sc_keep (fun (sV_53 : (Nat → Int64)) => (post ((sc_cells + 1) - 1) (sc_cells + 1) (upd sW sc_cells.toNatClampNeg a1) sV_53)) (sc_cells + 1) (upd sW sc_cells.toNatClampNeg a1) sV ((sc_cells + 1) - 1) a2))) ∧ (¬ sc_cells < 40 → (post (-1) sc_cells sW sV)))) ∧ (¬ a1 ≤ 18 → (post (-4) sc_cells sW sV)))))
set_option maxHeartbeats 4000000 in
set_option maxRecDepth 100000 in
theorem met_Sc_addCell (l : Launch) (dC : Nat → ClassId) (dI : Nat → Nat → Nat) (cI cL cB : ClassId) (sz : Nat) (h_sc h_sW h_sV h_sT : Nat) (t_TENS : Nat) (sc_cells : Int32) (sW : (Nat → Int32)) (sV : (Nat → Int64)) (a1 : Int32) (a2 : Int64) (post : Int32 → Int32 → (Nat → Int32) → (Nat → Int64) → Prop) (hw : wp_Sc_addCell post sc_cells sW sV a1 a2) : Met l ySc_addCell wsSc_addCell ({ frames := 1, cells := 0, slots := 0, locals := 26 } : Room) (va_Pc [.ref h_sc, .int a1, .long a2] (fun U => U.heap.size = sz ∧ va_P (dC, dI) vwCl [(h_sc, .inr (5, [.ref h_sW, .ref h_sV, .ref h_sT, .int sc_cells])), (h_sW, .inl (cI, 40, .inl sW)), (h_sV, .inl (cL, 40, .inr (.inl sV)))] U.heap ∧ KK dC dI cI cL cB U ∧ va_D (fun _ => True) [(h_sc, .inr (5, [.ref h_sW, .ref h_sV, .ref h_sT, .int sc_cells])), (h_sW, .inl (cI, 40, .inl sW)), (h_sV, .inl (cL, 40, .inr (.inl sV)))] ∧ va_Z "ParagraphWalk" "TENS" "[J" (.ref t_TENS) (va_A [(h_sc, .inr (5, [.ref h_sW, .ref h_sV, .ref h_sT, .int sc_cells])), (h_sW, .inl (cI, 40, .inl sW)), (h_sV, .inl (cL, 40, .inr (.inl sV)))] sz) U U.heap ∧ va_T .long t_TENS 19 (fun j => .long (tTN j)) (va_A [(h_sc, .inr (5, [.ref h_sW, .ref h_sV, .ref h_sT, .int sc_cells])), (h_sW, .inl (cI, 40, .inl sW)), (h_sV, .inl (cL, 40, .inr (.inl sV)))] sz) U U.heap)) (va_Qi (fun (r : Int32) (u : Int32 × (Nat → Int32) × (Nat → Int64)) => post r u.1 u.2.1 u.2.2) (fun (u : Int32 × (Nat → Int32) × (Nat → Int64)) t => va_P (dC, dI) vwCl [(h_sc, .inr (5, [.ref h_sW, .ref h_sV, .ref h_sT, .int u.1])), (h_sW, .inl (cI, 40, .inl u.2.1)), (h_sV, .inl (cL, 40, .inr (.inl u.2.2)))] t.heap ∧ va_D (va_A [(h_sc, .inr (5, [.ref h_sW, .ref h_sV, .ref h_sT, .int sc_cells])), (h_sW, .inl (cI, 40, .inl sW)), (h_sV, .inl (cL, 40, .inr (.inl sV)))] sz) [(h_sc, .inr (5, [.ref h_sW, .ref h_sV, .ref h_sT, .int u.1])), (h_sW, .inl (cI, 40, .inl u.2.1)), (h_sV, .inl (cL, 40, .inr (.inl u.2.2)))]) (va_A [(h_sc, .inr (5, [.ref h_sW, .ref h_sV, .ref h_sT, .int sc_cells])), (h_sW, .inl (cI, 40, .inl sW)), (h_sV, .inl (cL, 40, .inr (.inl sV)))] sz)) 0 0 (va_A [(h_sc, .inr (5, [.ref h_sW, .ref h_sV, .ref h_sT, .int sc_cells])), (h_sW, .inl (cI, 40, .inl sW)), (h_sV, .inl (cL, 40, .inr (.inl sV)))] sz) := by
  refine Met.ofW (cc := cSc_addCell) (maxL := 4) (ret := (some .int)) (by decide) rfl ?_
  intro p e s m args below meth c s₁ B hml hv
  obtain ⟨rfl, hsz, hP, hK, hD0, hZ_TENS, hT_TENS⟩ := hv
  have hx := B.exec
  have hb := B.bytes
  have hr := B.returns
  have hts := atoms_spec (ws := wsSc_addCell) B.pre
  have hown : s.vm.findClass RSc = some m.cls := findClass_of_methodNamed B.named
  have hlocks := B.notSynchronized
  subst hsz
  have hD := hD0.self (sz := s.heap.size)
  generalize hAe : va_A [(h_sc, .inr (5, [.ref h_sW, .ref h_sV, .ref h_sT, .int sc_cells])), (h_sW, .inl (cI, 40, .inl sW)), (h_sV, .inl (cL, 40, .inr (.inl sV)))] s.heap.size = A at hD hZ_TENS hT_TENS ⊢
  have hA : ∀ q : Nat, s.heap.size ≤ q → A q := fun q h => by rw [← hAe]; exact Or.inr h
  have hS : va_S A s.heap s.heap [] := va_S.rf
  have hP : va_P (dC, dI) vwCl [(h_sc, .inr (5, [.ref h_sW, .ref h_sV, .ref h_sT, .int sc_cells])), (h_sW, .inl (cI, 40, .inl sW)), (h_sV, .inl (cL, 40, .inr (.inl sV)))] s.heap := hP
  have htb : ∀ w ∈ TB, w.before _ s = true := fun w h => hts w (List.mem_cons_of_mem _ h)
  have hf_9 := htb _ kw_133
  have hf_22 := htb _ kw_136
  have hl := lv_entry ([.ref h_sc, .int a1, .long a2]) (n := 4) (Nat.le_of_ble_eq_true rfl)
  rw [lg_entry_eq]
  generalize (lg_sl ([.ref h_sc, .int a1, .long a2]) ++ List.replicate (4 - (lg_sl ([.ref h_sc, .int a1, .long a2])).length) Slot.unset).toArray = ls at hl ⊢
  have hl : lv_has ls 4 [(0, .ref h_sc), (1, .int a1), (2, .long a2)] := hl
  unfold wp_Sc_addCell at hw
  refine lv_iload_n hx hb dSc_addCell_0 rfl (lv_at hl 1 rfl) ?_
  refine lv_iconst (v := 1) hx hb dSc_addCell_1 (by decide) ?_
  refine lv_icmp_lt (tgt := 11) hx hb dSc_addCell_2 (by decide) (fun c_2 => ?_) (fun c_2 => ?_)
  · have hw := hw.1 c_2
    refine lv_bipush (v := (-4)) hx hb dSc_addCell_11 (by decide +kernel) ?_
    have hP9 := hP.sub (ws' := [(h_sc, .inr (5, [.ref h_sW, .ref h_sV, .ref h_sT, .int sc_cells])), (h_sW, .inl (cI, 40, .inl sW)), (h_sV, .inl (cL, 40, .inr (.inl sV)))]) [0, 1, 2] rfl
    have hD9 := hD.sub (ws' := [(h_sc, .inr (5, [.ref h_sW, .ref h_sV, .ref h_sT, .int sc_cells])), (h_sW, .inl (cI, 40, .inl sW)), (h_sV, .inl (cL, 40, .inr (.inl sV)))]) [0, 1, 2] (by decide) rfl
    exact W.iret (v := (-4)) hx hb hr (fun t ht hW => ⟨⟨_, (sc_cells, sW, sV), rfl, hw, by rw [ht]; exact hP9, hD9⟩, hS.F ht⟩) hS.2.2 dSc_addCell_13
  · have hw := hw.2 c_2
    refine lv_iload_n hx hb dSc_addCell_5 rfl (lv_at hl 1 rfl) ?_
    refine lv_bipush (v := 18) hx hb dSc_addCell_6 (by decide +kernel) ?_
    refine lv_icmp_le (tgt := 14) hx hb dSc_addCell_8 (by decide) (fun c_8 => ?_) (fun c_8 => ?_)
    · have hw := hw.1 c_8
      refine lv_aload_n hx hb dSc_addCell_14 rfl (lv_at hl 0 rfl) ?_
      refine va_get (D := (dC, dI)) (ci := 5) (v := .int sc_cells) (C := RSc) (T := TSc) (N := 4) hx hb htb in_Sc hown hK.1 hP 0 rfl rfl 3 (by decide) hf_22 (fun _ h9 => h9) rfl dSc_addCell_15 ?_
      refine lv_bipush (v := 40) hx hb dSc_addCell_18 (by decide +kernel) ?_
      refine lv_icmp_lt (tgt := 25) hx hb dSc_addCell_20 (by decide) (fun c_20 => ?_) (fun c_20 => ?_)
      · have hw := hw.1 c_20
        refine lv_aload_n hx hb dSc_addCell_25 rfl (lv_at hl 0 rfl) ?_
        refine va_get (D := (dC, dI)) (ci := 5) (v := .ref h_sW) (C := RSc) (T := TSc) (N := 4) hx hb htb in_Sc hown hK.1 hP 0 rfl rfl 0 (by decide) hf_9 (fun _ h9 => h9) rfl dSc_addCell_26 ?_
        refine lv_aload_n hx hb dSc_addCell_29 rfl (lv_at hl 0 rfl) ?_
        refine va_get (D := (dC, dI)) (ci := 5) (v := .int sc_cells) (C := RSc) (T := TSc) (N := 4) hx hb htb in_Sc hown hK.1 hP 0 rfl rfl 3 (by decide) hf_22 (fun _ h9 => h9) rfl dSc_addCell_30 ?_
        refine lv_iload_n hx hb dSc_addCell_33 rfl (lv_at hl 1 rfl) ?_
        obtain ⟨hin, hw⟩ := hw
        refine va_iast hx hb hK.1 hP hD hS 1 0 rfl rfl hin dSc_addCell_34 (fun H locs hP hD hS => ?_)
        have hP : va_P (dC, dI) vwCl [(h_sc, .inr (5, [.ref h_sW, .ref h_sV, .ref h_sT, .int sc_cells])), (h_sW, .inl (cI, 40, .inl (upd sW sc_cells.toNatClampNeg a1))), (h_sV, .inl (cL, 40, .inr (.inl sV)))] H := hP
        have hD : va_D A [(h_sc, .inr (5, [.ref h_sW, .ref h_sV, .ref h_sT, .int sc_cells])), (h_sW, .inl (cI, 40, .inl (upd sW sc_cells.toNatClampNeg a1))), (h_sV, .inl (cL, 40, .inr (.inl sV)))] := hD
        refine lv_aload_n hx hb dSc_addCell_35 rfl (lv_at hl 0 rfl) ?_
        refine lv_dup hx hb dSc_addCell_36 rfl ?_
        refine va_get (D := (dC, dI)) (ci := 5) (v := .int sc_cells) (C := RSc) (T := TSc) (N := 4) hx hb htb in_Sc hown hK.1 hP 0 rfl rfl 3 (by decide) hf_22 (fun _ h9 => h9) rfl dSc_addCell_37 ?_
        refine lv_iconst (v := 1) hx hb dSc_addCell_40 (by decide) ?_
        refine lv_iadd hx hb dSc_addCell_41 ?_
        refine va_put (D := (dC, dI)) (ci := 5) (v := .int (sc_cells + 1)) (ty := .int) (C := RSc) (T := TSc) (N := 4) hx hb htb in_Sc tySc tySc_ok nmSc hown hK.1 hP hD hS 0 rfl rfl 3 (by decide) hf_22 (fun _ h9 => h9) rfl (by decide +kernel) rfl rfl (Nat.le_of_ble_eq_true rfl) dSc_addCell_42 (fun H locs hP hD hS => ?_)
        have hP : va_P (dC, dI) vwCl [(h_sc, .inr (5, [.ref h_sW, .ref h_sV, .ref h_sT, .int (sc_cells + 1)])), (h_sW, .inl (cI, 40, .inl (upd sW sc_cells.toNatClampNeg a1))), (h_sV, .inl (cL, 40, .inr (.inl sV)))] H := hP
        have hD : va_D A [(h_sc, .inr (5, [.ref h_sW, .ref h_sV, .ref h_sT, .int (sc_cells + 1)])), (h_sW, .inl (cI, 40, .inl (upd sW sc_cells.toNatClampNeg a1))), (h_sV, .inl (cL, 40, .inr (.inl sV)))] := hD
        refine lv_aload_n hx hb dSc_addCell_45 rfl (lv_at hl 0 rfl) ?_
        refine lv_aload_n hx hb dSc_addCell_46 rfl (lv_at hl 0 rfl) ?_
        refine va_get (D := (dC, dI)) (ci := 5) (v := .int (sc_cells + 1)) (C := RSc) (T := TSc) (N := 4) hx hb htb in_Sc hown hK.1 hP 0 rfl rfl 3 (by decide) hf_22 (fun _ h9 => h9) rfl dSc_addCell_47 ?_
        refine lv_iconst (v := 1) hx hb dSc_addCell_50 (by decide) ?_
        refine lv_isub hx hb dSc_addCell_51 ?_
        refine lv_lload_n hx hb dSc_addCell_52 rfl (lv_at hl 2 rfl) ?_
        have hPc := hP.sub (ws' := [(h_sc, .inr (5, [.ref h_sW, .ref h_sV, .ref h_sT, .int (sc_cells + 1)])), (h_sW, .inl (cI, 40, .inl (upd sW sc_cells.toNatClampNeg a1))), (h_sV, .inl (cL, 40, .inr (.inl sV)))]) [0, 1, 2] rfl
        have hDc := hD.sub (ws' := [(h_sc, .inr (5, [.ref h_sW, .ref h_sV, .ref h_sT, .int (sc_cells + 1)])), (h_sW, .inl (cI, 40, .inl (upd sW sc_cells.toNatClampNeg a1))), (h_sV, .inl (cL, 40, .inr (.inl sV)))]) [0, 1, 2] (by decide) rfl
        have hFc := va_free (wc := [(h_sc, .inr (5, [.ref h_sW, .ref h_sV, .ref h_sT, .int (sc_cells + 1)])), (h_sW, .inl (cI, 40, .inl (upd sW sc_cells.toNatClampNeg a1))), (h_sV, .inl (cL, 40, .inr (.inl sV)))]) hD hS hA [0, 1, 2] rfl
        refine va_callv (va_runV (As := [.int ((sc_cells + 1) - 1), .long a2]) (rest := []) ⟨hx, hb, hml, hown, htb⟩ (met_Sc_keep l dC dI cI cL cB H.size h_sc h_sW h_sV h_sT t_TENS (sc_cells + 1) (upd sW sc_cells.toNatClampNeg a1) sV ((sc_cells + 1) - 1) a2 _ hw) (cwV 2 htb (gdV kw_308 kw_309 kw_310 kw_43 kw_311) rfl rfl rfl (by decide +kernel) ⟨Nat.le_of_ble_eq_true rfl, Nat.le_of_ble_eq_true rfl⟩) ⟨fun a U g mk q => by obtain ⟨q0, q1, qP, qK, qD, qZ_TENS, qT_TENS⟩ := q; exact ⟨q0, q1, qP, KK_c qK, qD, va_Z.moved (u := U) (U := U.calling g mk a) (Vm.Alike.refl U.vm) qZ_TENS, va_T.moved (u := U) (U := U.calling g mk a) (Vm.Alike.refl U.vm) qT_TENS⟩, va_recv hK.1 hP (ci := 5) (q0 := 0) rfl rfl, fun U hU hW => ⟨rfl, by rw [hU], by rw [hU]; exact hPc, KK_w hW hK, hDc.weaken (fun _ _ _ _ => trivial), by rw [hU]; exact (va_Z.moved hW.alike (hZ_TENS.kept hS.2.1)).narrow hFc, by rw [hU]; exact (va_T.moved hW.alike (hT_TENS.kept hS.2.1)).narrow hFc⟩⟩ rfl rfl hl.1 rfl (lv_room (Nat.le_of_ble_eq_true rfl)) dSc_addCell_53 ⟨Nat.zero_le _, Nat.zero_le _⟩) hS (fun q _ h => hFc q h) hFc (fun u t H1 locs ht hvm hw hB hz1 hk1 hS => ?_)
        obtain ⟨sV_53, rfl⟩ : ∃ z, z = u := ⟨_, rfl⟩
        obtain ⟨hP1, hD1⟩ := hB
        rw [ht] at hP1
        try dsimp only at hw
        obtain ⟨hP, hD⟩ := va_join (wr := []) (w1 := [(h_sc, .inr (5, [.ref h_sW, .ref h_sV, .ref h_sT, .int (sc_cells + 1)])), (h_sW, .inl (cI, 40, .inl (upd sW sc_cells.toNatClampNeg a1))), (h_sV, .inl (cL, 40, .inr (.inl sV_53)))]) hP hD [0, 1, 2] [] rfl rfl (by decide) (by decide) hk1 hFc hP1 hD1
        generalize H1 = H at hP hS ⊢
        have hP : va_P (dC, dI) vwCl [(h_sc, .inr (5, [.ref h_sW, .ref h_sV, .ref h_sT, .int (sc_cells + 1)])), (h_sW, .inl (cI, 40, .inl (upd sW sc_cells.toNatClampNeg a1))), (h_sV, .inl (cL, 40, .inr (.inl sV_53)))] H := hP
        have hD : va_D A [(h_sc, .inr (5, [.ref h_sW, .ref h_sV, .ref h_sT, .int (sc_cells + 1)])), (h_sW, .inl (cI, 40, .inl (upd sW sc_cells.toNatClampNeg a1))), (h_sV, .inl (cL, 40, .inr (.inl sV_53)))] := hD
        refine lv_aload_n hx hb dSc_addCell_56 rfl (lv_at hl 0 rfl) ?_
        refine va_get (D := (dC, dI)) (ci := 5) (v := .int (sc_cells + 1)) (C := RSc) (T := TSc) (N := 4) hx hb htb in_Sc hown hK.1 hP 0 rfl rfl 3 (by decide) hf_22 (fun _ h9 => h9) rfl dSc_addCell_57 ?_
        refine lv_iconst (v := 1) hx hb dSc_addCell_60 (by decide) ?_
        refine lv_isub hx hb dSc_addCell_61 ?_
        have hP9 := hP.sub (ws' := [(h_sc, .inr (5, [.ref h_sW, .ref h_sV, .ref h_sT, .int (sc_cells + 1)])), (h_sW, .inl (cI, 40, .inl (upd sW sc_cells.toNatClampNeg a1))), (h_sV, .inl (cL, 40, .inr (.inl sV_53)))]) [0, 1, 2] rfl
        have hD9 := hD.sub (ws' := [(h_sc, .inr (5, [.ref h_sW, .ref h_sV, .ref h_sT, .int (sc_cells + 1)])), (h_sW, .inl (cI, 40, .inl (upd sW sc_cells.toNatClampNeg a1))), (h_sV, .inl (cL, 40, .inr (.inl sV_53)))]) [0, 1, 2] (by decide) rfl
        exact W.iret (v := ((sc_cells + 1) - 1)) hx hb hr (fun t ht hW => ⟨⟨_, ((sc_cells + 1), (upd sW sc_cells.toNatClampNeg a1), sV_53), rfl, hw, by rw [ht]; exact hP9, hD9⟩, hS.F ht⟩) hS.2.2 dSc_addCell_62
      · have hw := hw.2 c_20
        refine lv_iconst (v := (-1)) hx hb dSc_addCell_23 (by decide) ?_
        have hP9 := hP.sub (ws' := [(h_sc, .inr (5, [.ref h_sW, .ref h_sV, .ref h_sT, .int sc_cells])), (h_sW, .inl (cI, 40, .inl sW)), (h_sV, .inl (cL, 40, .inr (.inl sV)))]) [0, 1, 2] rfl
        have hD9 := hD.sub (ws' := [(h_sc, .inr (5, [.ref h_sW, .ref h_sV, .ref h_sT, .int sc_cells])), (h_sW, .inl (cI, 40, .inl sW)), (h_sV, .inl (cL, 40, .inr (.inl sV)))]) [0, 1, 2] (by decide) rfl
        exact W.iret (v := (-1)) hx hb hr (fun t ht hW => ⟨⟨_, (sc_cells, sW, sV), rfl, hw, by rw [ht]; exact hP9, hD9⟩, hS.F ht⟩) hS.2.2 dSc_addCell_24
    · have hw := hw.2 c_8
      refine lv_bipush (v := (-4)) hx hb dSc_addCell_11 (by decide +kernel) ?_
      have hP9 := hP.sub (ws' := [(h_sc, .inr (5, [.ref h_sW, .ref h_sV, .ref h_sT, .int sc_cells])), (h_sW, .inl (cI, 40, .inl sW)), (h_sV, .inl (cL, 40, .inr (.inl sV)))]) [0, 1, 2] rfl
      have hD9 := hD.sub (ws' := [(h_sc, .inr (5, [.ref h_sW, .ref h_sV, .ref h_sT, .int sc_cells])), (h_sW, .inl (cI, 40, .inl sW)), (h_sV, .inl (cL, 40, .inr (.inl sV)))]) [0, 1, 2] (by decide) rfl
      exact W.iret (v := (-4)) hx hb hr (fun t ht hW => ⟨⟨_, (sc_cells, sW, sV), rfl, hw, by rw [ht]; exact hP9, hD9⟩, hS.F ht⟩) hS.2.2 dSc_addCell_13
def wp_Sc_hasCell (post : Int32 → Prop) (sc_cells : Int32) (a1 : Int32) : Prop := ((a1 < 0 → (post 0)) ∧ (¬ a1 < 0 → ((sc_cells ≤ a1 → (post 0)) ∧ (¬ sc_cells ≤ a1 → (post 1)))))
set_option maxHeartbeats 4000000 in
set_option maxRecDepth 100000 in
theorem met_Sc_hasCell (l : Launch) (dC : Nat → ClassId) (dI : Nat → Nat → Nat) (cI cL cB : ClassId) (h_sc h_sW h_sV h_sT : Nat) (sc_cells : Int32) (a1 : Int32) (post : Int32 → Prop) (hw : wp_Sc_hasCell post sc_cells a1) : Met l ySc_hasCell wsSc_hasCell ({ frames := 0, cells := 0, slots := 0, locals := 0 } : Room) (va_Pc [.ref h_sc, .int a1] (fun U => va_P (dC, dI) vwCl [(h_sc, .inr (5, [.ref h_sW, .ref h_sV, .ref h_sT, .int sc_cells]))] U.heap ∧ KK dC dI cI cL cB U)) (ro_i post) 0 0 (fun _ => False) := by
  refine Met.ofW (cc := cSc_hasCell) (maxL := 2) (ret := (some .boolean)) (by decide) rfl ?_
  intro p e s m args below meth c s₁ B hml hv
  obtain ⟨rfl, hP, hK⟩ := hv
  have hx := B.exec
  have hb := B.bytes
  have hr := B.returns
  have hts := atoms_spec (ws := wsSc_hasCell) B.pre
  have hown : s.vm.findClass RSc = some m.cls := findClass_of_methodNamed B.named
  have hlocks := B.notSynchronized
  have hS : va_S (fun _ => False) s.heap s.heap [] := va_S.rf
  have htb : ∀ w ∈ TB, w.before _ s = true := fun w h => hts w (List.mem_cons_of_mem _ h)
  have hf_22 := htb _ kw_136
  have hl := lv_entry ([.ref h_sc, .int a1]) (n := 2) (Nat.le_of_ble_eq_true rfl)
  rw [lg_entry_eq]
  generalize (lg_sl ([.ref h_sc, .int a1]) ++ List.replicate (2 - (lg_sl ([.ref h_sc, .int a1])).length) Slot.unset).toArray = ls at hl ⊢
  have hl : lv_has ls 2 [(0, .ref h_sc), (1, .int a1)] := hl
  unfold wp_Sc_hasCell at hw
  refine lv_iload_n hx hb dSc_hasCell_0 rfl (lv_at hl 1 rfl) ?_
  refine lv_if_lt (tgt := 16) hx hb dSc_hasCell_1 (by decide) (fun c_1 => ?_) (fun c_1 => ?_)
  · have hw := hw.1 c_1
    refine lv_iconst (v := 0) hx hb dSc_hasCell_16 (by decide) ?_
    exact W.zret (v := 0) hx hb hr (by decide) (fun t ht hW => ⟨_, rfl, hw, ht⟩) (fun q h => absurd h List.not_mem_nil) dSc_hasCell_17
  · have hw := hw.2 c_1
    refine lv_iload_n hx hb dSc_hasCell_4 rfl (lv_at hl 1 rfl) ?_
    refine lv_aload_n hx hb dSc_hasCell_5 rfl (lv_at hl 0 rfl) ?_
    refine va_get (D := (dC, dI)) (ci := 5) (v := .int sc_cells) (C := RSc) (T := TSc) (N := 4) hx hb htb in_Sc hown hK.1 hP 0 rfl rfl 3 (by decide) hf_22 (fun _ h9 => h9) rfl dSc_hasCell_6 ?_
    refine lv_icmp_ge (tgt := 16) hx hb dSc_hasCell_9 (by decide) (fun c_9 => ?_) (fun c_9 => ?_)
    · have hw := hw.1 c_9
      refine lv_iconst (v := 0) hx hb dSc_hasCell_16 (by decide) ?_
      exact W.zret (v := 0) hx hb hr (by decide) (fun t ht hW => ⟨_, rfl, hw, ht⟩) (fun q h => absurd h List.not_mem_nil) dSc_hasCell_17
    · have hw := hw.2 c_9
      refine lv_iconst (v := 1) hx hb dSc_hasCell_12 (by decide) ?_
      refine lv_goto (tgt := 17) hx hb dSc_hasCell_13 (by decide) ?_
      exact W.zret (v := 1) hx hb hr (by decide) (fun t ht hW => ⟨_, rfl, hw, ht⟩) (fun q h => absurd h List.not_mem_nil) dSc_hasCell_17
def wp_Sc_valueOf (post : Int64 → Prop) (sc_cells : Int32) (sV : (Nat → Int64)) (a1 : Int32) : Prop := ((a1 < 0 → (post 0)) ∧ (¬ a1 < 0 → ((sc_cells ≤ a1 → (post 0)) ∧ (¬ sc_cells ≤ a1 → (vp_in a1 40 ∧ (post (sV a1.toNatClampNeg)))))))
set_option maxHeartbeats 4000000 in
set_option maxRecDepth 100000 in
theorem met_Sc_valueOf (l : Launch) (dC : Nat → ClassId) (dI : Nat → Nat → Nat) (cI cL cB : ClassId) (h_sc h_sW h_sV h_sT : Nat) (sc_cells : Int32) (sV : (Nat → Int64)) (a1 : Int32) (post : Int64 → Prop) (hw : wp_Sc_valueOf post sc_cells sV a1) : Met l ySc_valueOf wsSc_valueOf ({ frames := 0, cells := 0, slots := 0, locals := 0 } : Room) (va_Pc [.ref h_sc, .int a1] (fun U => va_P (dC, dI) vwCl [(h_sc, .inr (5, [.ref h_sW, .ref h_sV, .ref h_sT, .int sc_cells])), (h_sV, .inl (cL, 40, .inr (.inl sV)))] U.heap ∧ KK dC dI cI cL cB U)) (ro_l post) 0 0 (fun _ => False) := by
  refine Met.ofW (cc := cSc_valueOf) (maxL := 2) (ret := (some .long)) (by decide) rfl ?_
  intro p e s m args below meth c s₁ B hml hv
  obtain ⟨rfl, hP, hK⟩ := hv
  have hx := B.exec
  have hb := B.bytes
  have hr := B.returns
  have hts := atoms_spec (ws := wsSc_valueOf) B.pre
  have hown : s.vm.findClass RSc = some m.cls := findClass_of_methodNamed B.named
  have hlocks := B.notSynchronized
  have hS : va_S (fun _ => False) s.heap s.heap [] := va_S.rf
  have htb : ∀ w ∈ TB, w.before _ s = true := fun w h => hts w (List.mem_cons_of_mem _ h)
  have hf_15 := htb _ kw_134
  have hf_22 := htb _ kw_136
  have hl := lv_entry ([.ref h_sc, .int a1]) (n := 2) (Nat.le_of_ble_eq_true rfl)
  rw [lg_entry_eq]
  generalize (lg_sl ([.ref h_sc, .int a1]) ++ List.replicate (2 - (lg_sl ([.ref h_sc, .int a1])).length) Slot.unset).toArray = ls at hl ⊢
  have hl : lv_has ls 2 [(0, .ref h_sc), (1, .int a1)] := hl
  unfold wp_Sc_valueOf at hw
  refine lv_iload_n hx hb dSc_valueOf_0 rfl (lv_at hl 1 rfl) ?_
  refine lv_if_lt (tgt := 21) hx hb dSc_valueOf_1 (by decide) (fun c_1 => ?_) (fun c_1 => ?_)
  · have hw := hw.1 c_1
    refine lv_lconst (v := 0) hx hb dSc_valueOf_21 (by decide) ?_
    exact W.lret (v := 0) hx hb hr (fun t ht hW => ⟨_, rfl, hw, ht⟩) (fun q h => absurd h List.not_mem_nil) dSc_valueOf_22
  · have hw := hw.2 c_1
    refine lv_iload_n hx hb dSc_valueOf_4 rfl (lv_at hl 1 rfl) ?_
    refine lv_aload_n hx hb dSc_valueOf_5 rfl (lv_at hl 0 rfl) ?_
    refine va_get (D := (dC, dI)) (ci := 5) (v := .int sc_cells) (C := RSc) (T := TSc) (N := 4) hx hb htb in_Sc hown hK.1 hP 0 rfl rfl 3 (by decide) hf_22 (fun _ h9 => h9) rfl dSc_valueOf_6 ?_
    refine lv_icmp_ge (tgt := 21) hx hb dSc_valueOf_9 (by decide) (fun c_9 => ?_) (fun c_9 => ?_)
    · have hw := hw.1 c_9
      refine lv_lconst (v := 0) hx hb dSc_valueOf_21 (by decide) ?_
      exact W.lret (v := 0) hx hb hr (fun t ht hW => ⟨_, rfl, hw, ht⟩) (fun q h => absurd h List.not_mem_nil) dSc_valueOf_22
    · have hw := hw.2 c_9
      refine lv_aload_n hx hb dSc_valueOf_12 rfl (lv_at hl 0 rfl) ?_
      refine va_get (D := (dC, dI)) (ci := 5) (v := .ref h_sV) (C := RSc) (T := TSc) (N := 4) hx hb htb in_Sc hown hK.1 hP 0 rfl rfl 1 (by decide) hf_15 (fun _ h9 => h9) rfl dSc_valueOf_13 ?_
      refine lv_iload_n hx hb dSc_valueOf_16 rfl (lv_at hl 1 rfl) ?_
      obtain ⟨hin, hw⟩ := hw
      refine va_lald hx hb hK.1 hP 1 1 rfl rfl hin dSc_valueOf_17 ?_
      refine lv_goto (tgt := 22) hx hb dSc_valueOf_18 (by decide) ?_
      exact W.lret (v := (sV a1.toNatClampNeg)) hx hb hr (fun t ht hW => ⟨_, rfl, hw, ht⟩) (fun q h => absurd h List.not_mem_nil) dSc_valueOf_22
def wp_Sc_takenOf (post : Int32 → Prop) (sc_cells : Int32) (sT : (Nat → Int32)) (a1 : Int32) : Prop := ((a1 < 0 → (post 0)) ∧ (¬ a1 < 0 → ((201 ≤ a1 → (post 0)) ∧ (¬ 201 ≤ a1 → (vp_in a1 201 ∧ (post (sT a1.toNatClampNeg)))))))
set_option maxHeartbeats 4000000 in
set_option maxRecDepth 100000 in
theorem met_Sc_takenOf (l : Launch) (dC : Nat → ClassId) (dI : Nat → Nat → Nat) (cI cL cB : ClassId) (h_sc h_sW h_sV h_sT : Nat) (sc_cells : Int32) (sT : (Nat → Int32)) (a1 : Int32) (post : Int32 → Prop) (hw : wp_Sc_takenOf post sc_cells sT a1) : Met l ySc_takenOf wsSc_takenOf ({ frames := 0, cells := 0, slots := 0, locals := 0 } : Room) (va_Pc [.ref h_sc, .int a1] (fun U => va_P (dC, dI) vwCl [(h_sc, .inr (5, [.ref h_sW, .ref h_sV, .ref h_sT, .int sc_cells])), (h_sT, .inl (cI, 201, .inl sT))] U.heap ∧ KK dC dI cI cL cB U)) (ro_i post) 0 0 (fun _ => False) := by
  refine Met.ofW (cc := cSc_takenOf) (maxL := 2) (ret := (some .int)) (by decide) rfl ?_
  intro p e s m args below meth c s₁ B hml hv
  obtain ⟨rfl, hP, hK⟩ := hv
  have hx := B.exec
  have hb := B.bytes
  have hr := B.returns
  have hts := atoms_spec (ws := wsSc_takenOf) B.pre
  have hown : s.vm.findClass RSc = some m.cls := findClass_of_methodNamed B.named
  have hlocks := B.notSynchronized
  have hS : va_S (fun _ => False) s.heap s.heap [] := va_S.rf
  have htb : ∀ w ∈ TB, w.before _ s = true := fun w h => hts w (List.mem_cons_of_mem _ h)
  have hf_19 := htb _ kw_135
  have hl := lv_entry ([.ref h_sc, .int a1]) (n := 2) (Nat.le_of_ble_eq_true rfl)
  rw [lg_entry_eq]
  generalize (lg_sl ([.ref h_sc, .int a1]) ++ List.replicate (2 - (lg_sl ([.ref h_sc, .int a1])).length) Slot.unset).toArray = ls at hl ⊢
  have hl : lv_has ls 2 [(0, .ref h_sc), (1, .int a1)] := hl
  unfold wp_Sc_takenOf at hw
  refine lv_iload_n hx hb dSc_takenOf_0 rfl (lv_at hl 1 rfl) ?_
  refine lv_if_lt (tgt := 22) hx hb dSc_takenOf_1 (by decide) (fun c_1 => ?_) (fun c_1 => ?_)
  · have hw := hw.1 c_1
    refine lv_iconst (v := 0) hx hb dSc_takenOf_22 (by decide) ?_
    exact W.iret (v := 0) hx hb hr (fun t ht hW => ⟨_, rfl, hw, ht⟩) (fun q h => absurd h List.not_mem_nil) dSc_takenOf_23
  · have hw := hw.2 c_1
    refine lv_iload_n hx hb dSc_takenOf_4 rfl (lv_at hl 1 rfl) ?_
    refine lv_aload_n hx hb dSc_takenOf_5 rfl (lv_at hl 0 rfl) ?_
    refine va_get (D := (dC, dI)) (ci := 5) (v := .ref h_sT) (C := RSc) (T := TSc) (N := 4) hx hb htb in_Sc hown hK.1 hP 0 rfl rfl 2 (by decide) hf_19 (fun _ h9 => h9) rfl dSc_takenOf_6 ?_
    refine va_alen (v := 201) hx hb hK.1 hP 1 0 rfl rfl (show Int32.ofNat 201 = 201 by decide +kernel) dSc_takenOf_9 ?_
    refine lv_icmp_ge (tgt := 22) hx hb dSc_takenOf_10 (by decide) (fun c_10 => ?_) (fun c_10 => ?_)
    · have hw := hw.1 c_10
      refine lv_iconst (v := 0) hx hb dSc_takenOf_22 (by decide) ?_
      exact W.iret (v := 0) hx hb hr (fun t ht hW => ⟨_, rfl, hw, ht⟩) (fun q h => absurd h List.not_mem_nil) dSc_takenOf_23
    · have hw := hw.2 c_10
      refine lv_aload_n hx hb dSc_takenOf_13 rfl (lv_at hl 0 rfl) ?_
      refine va_get (D := (dC, dI)) (ci := 5) (v := .ref h_sT) (C := RSc) (T := TSc) (N := 4) hx hb htb in_Sc hown hK.1 hP 0 rfl rfl 2 (by decide) hf_19 (fun _ h9 => h9) rfl dSc_takenOf_14 ?_
      refine lv_iload_n hx hb dSc_takenOf_17 rfl (lv_at hl 1 rfl) ?_
      obtain ⟨hin, hw⟩ := hw
      refine va_iald hx hb hK.1 hP 1 0 rfl rfl hin dSc_takenOf_18 ?_
      refine lv_goto (tgt := 23) hx hb dSc_takenOf_19 (by decide) ?_
      exact W.iret (v := (sT a1.toNatClampNeg)) hx hb hr (fun t ht hW => ⟨_, rfl, hw, ht⟩) (fun q h => absurd h List.not_mem_nil) dSc_takenOf_23
def wp_Sc_take (post : (Nat → Int32) → Prop) (sc_cells : Int32) (sT : (Nat → Int32)) (a1 : Int32) : Prop := ((a1 < 0 → (post sT)) ∧ (¬ a1 < 0 → ((201 ≤ a1 → (post sT)) ∧ (¬ 201 ≤ a1 → (vp_in a1 201 ∧ (vp_in a1 201 ∧ (post (upd sT a1.toNatClampNeg ((sT a1.toNatClampNeg) + 1)))))))))
set_option maxHeartbeats 4000000 in
set_option maxRecDepth 100000 in
theorem met_Sc_take (l : Launch) (dC : Nat → ClassId) (dI : Nat → Nat → Nat) (cI cL cB : ClassId) (sz : Nat) (h_sc h_sW h_sV h_sT : Nat) (sc_cells : Int32) (sT : (Nat → Int32)) (a1 : Int32) (post : (Nat → Int32) → Prop) (hw : wp_Sc_take post sc_cells sT a1) : Met l ySc_take wsSc_take ({ frames := 0, cells := 0, slots := 0, locals := 0 } : Room) (va_Pc [.ref h_sc, .int a1] (fun U => U.heap.size = sz ∧ va_P (dC, dI) vwCl [(h_sc, .inr (5, [.ref h_sW, .ref h_sV, .ref h_sT, .int sc_cells])), (h_sT, .inl (cI, 201, .inl sT))] U.heap ∧ KK dC dI cI cL cB U ∧ va_D (fun _ => True) [(h_sc, .inr (5, [.ref h_sW, .ref h_sV, .ref h_sT, .int sc_cells])), (h_sT, .inl (cI, 201, .inl sT))])) (va_Qv (fun (u : (Nat → Int32)) => post u) (fun (u : (Nat → Int32)) t => va_P (dC, dI) vwCl [(h_sc, .inr (5, [.ref h_sW, .ref h_sV, .ref h_sT, .int sc_cells])), (h_sT, .inl (cI, 201, .inl u))] t.heap ∧ va_D (va_A [(h_sc, .inr (5, [.ref h_sW, .ref h_sV, .ref h_sT, .int sc_cells])), (h_sT, .inl (cI, 201, .inl sT))] sz) [(h_sc, .inr (5, [.ref h_sW, .ref h_sV, .ref h_sT, .int sc_cells])), (h_sT, .inl (cI, 201, .inl u))]) (va_A [(h_sc, .inr (5, [.ref h_sW, .ref h_sV, .ref h_sT, .int sc_cells])), (h_sT, .inl (cI, 201, .inl sT))] sz)) 0 0 (va_A [(h_sc, .inr (5, [.ref h_sW, .ref h_sV, .ref h_sT, .int sc_cells])), (h_sT, .inl (cI, 201, .inl sT))] sz) := by
  refine Met.ofW (cc := cSc_take) (maxL := 2) (ret := none) (by decide) rfl ?_
  intro p e s m args below meth c s₁ B hml hv
  obtain ⟨rfl, hsz, hP, hK, hD0⟩ := hv
  have hx := B.exec
  have hb := B.bytes
  have hr := B.returns
  have hts := atoms_spec (ws := wsSc_take) B.pre
  have hown : s.vm.findClass RSc = some m.cls := findClass_of_methodNamed B.named
  have hlocks := B.notSynchronized
  subst hsz
  have hD := hD0.self (sz := s.heap.size)
  generalize hAe : va_A [(h_sc, .inr (5, [.ref h_sW, .ref h_sV, .ref h_sT, .int sc_cells])), (h_sT, .inl (cI, 201, .inl sT))] s.heap.size = A at hD ⊢
  have hA : ∀ q : Nat, s.heap.size ≤ q → A q := fun q h => by rw [← hAe]; exact Or.inr h
  have hS : va_S A s.heap s.heap [] := va_S.rf
  have hP : va_P (dC, dI) vwCl [(h_sc, .inr (5, [.ref h_sW, .ref h_sV, .ref h_sT, .int sc_cells])), (h_sT, .inl (cI, 201, .inl sT))] s.heap := hP
  have htb : ∀ w ∈ TB, w.before _ s = true := fun w h => hts w (List.mem_cons_of_mem _ h)
  have hf_19 := htb _ kw_135
  have hl := lv_entry ([.ref h_sc, .int a1]) (n := 2) (Nat.le_of_ble_eq_true rfl)
  rw [lg_entry_eq]
  generalize (lg_sl ([.ref h_sc, .int a1]) ++ List.replicate (2 - (lg_sl ([.ref h_sc, .int a1])).length) Slot.unset).toArray = ls at hl ⊢
  have hl : lv_has ls 2 [(0, .ref h_sc), (1, .int a1)] := hl
  unfold wp_Sc_take at hw
  refine lv_iload_n hx hb dSc_take_0 rfl (lv_at hl 1 rfl) ?_
  refine lv_if_lt (tgt := 23) hx hb dSc_take_1 (by decide) (fun c_1 => ?_) (fun c_1 => ?_)
  · have hw := hw.1 c_1
    have hP9 := hP.sub (ws' := [(h_sc, .inr (5, [.ref h_sW, .ref h_sV, .ref h_sT, .int sc_cells])), (h_sT, .inl (cI, 201, .inl sT))]) [0, 1] rfl
    have hD9 := hD.sub (ws' := [(h_sc, .inr (5, [.ref h_sW, .ref h_sV, .ref h_sT, .int sc_cells])), (h_sT, .inl (cI, 201, .inl sT))]) [0, 1] (by decide) rfl
    exact W.vret hx hb hr (fun t ht hW => ⟨⟨sT, rfl, hw, by rw [ht]; exact hP9, hD9⟩, hS.F ht⟩) hS.2.2 dSc_take_23
  · have hw := hw.2 c_1
    refine lv_iload_n hx hb dSc_take_4 rfl (lv_at hl 1 rfl) ?_
    refine lv_aload_n hx hb dSc_take_5 rfl (lv_at hl 0 rfl) ?_
    refine va_get (D := (dC, dI)) (ci := 5) (v := .ref h_sT) (C := RSc) (T := TSc) (N := 4) hx hb htb in_Sc hown hK.1 hP 0 rfl rfl 2 (by decide) hf_19 (fun _ h9 => h9) rfl dSc_take_6 ?_
    refine va_alen (v := 201) hx hb hK.1 hP 1 0 rfl rfl (show Int32.ofNat 201 = 201 by decide +kernel) dSc_take_9 ?_
    refine lv_icmp_ge (tgt := 23) hx hb dSc_take_10 (by decide) (fun c_10 => ?_) (fun c_10 => ?_)
    · have hw := hw.1 c_10
      have hP9 := hP.sub (ws' := [(h_sc, .inr (5, [.ref h_sW, .ref h_sV, .ref h_sT, .int sc_cells])), (h_sT, .inl (cI, 201, .inl sT))]) [0, 1] rfl
      have hD9 := hD.sub (ws' := [(h_sc, .inr (5, [.ref h_sW, .ref h_sV, .ref h_sT, .int sc_cells])), (h_sT, .inl (cI, 201, .inl sT))]) [0, 1] (by decide) rfl
      exact W.vret hx hb hr (fun t ht hW => ⟨⟨sT, rfl, hw, by rw [ht]; exact hP9, hD9⟩, hS.F ht⟩) hS.2.2 dSc_take_23
    · have hw := hw.2 c_10
      refine lv_aload_n hx hb dSc_take_13 rfl (lv_at hl 0 rfl) ?_
      refine va_get (D := (dC, dI)) (ci := 5) (v := .ref h_sT) (C := RSc) (T := TSc) (N := 4) hx hb htb in_Sc hown hK.1 hP 0 rfl rfl 2 (by decide) hf_19 (fun _ h9 => h9) rfl dSc_take_14 ?_
      refine lv_iload_n hx hb dSc_take_17 rfl (lv_at hl 1 rfl) ?_
      refine lv_dup2_11 hx hb dSc_take_18 rfl rfl ?_
      obtain ⟨hin, hw⟩ := hw
      refine va_iald hx hb hK.1 hP 1 0 rfl rfl hin dSc_take_19 ?_
      refine lv_iconst (v := 1) hx hb dSc_take_20 (by decide) ?_
      refine lv_iadd hx hb dSc_take_21 ?_
      obtain ⟨hin, hw⟩ := hw
      refine va_iast hx hb hK.1 hP hD hS 1 0 rfl rfl hin dSc_take_22 (fun H locs hP hD hS => ?_)
      have hP : va_P (dC, dI) vwCl [(h_sc, .inr (5, [.ref h_sW, .ref h_sV, .ref h_sT, .int sc_cells])), (h_sT, .inl (cI, 201, .inl (upd sT a1.toNatClampNeg ((sT a1.toNatClampNeg) + 1))))] H := hP
      have hD : va_D A [(h_sc, .inr (5, [.ref h_sW, .ref h_sV, .ref h_sT, .int sc_cells])), (h_sT, .inl (cI, 201, .inl (upd sT a1.toNatClampNeg ((sT a1.toNatClampNeg) + 1))))] := hD
      have hP9 := hP.sub (ws' := [(h_sc, .inr (5, [.ref h_sW, .ref h_sV, .ref h_sT, .int sc_cells])), (h_sT, .inl (cI, 201, .inl (upd sT a1.toNatClampNeg ((sT a1.toNatClampNeg) + 1))))]) [0, 1] rfl
      have hD9 := hD.sub (ws' := [(h_sc, .inr (5, [.ref h_sW, .ref h_sV, .ref h_sT, .int sc_cells])), (h_sT, .inl (cI, 201, .inl (upd sT a1.toNatClampNeg ((sT a1.toNatClampNeg) + 1))))]) [0, 1] (by decide) rfl
      exact W.vret hx hb hr (fun t ht hW => ⟨⟨(upd sT a1.toNatClampNeg ((sT a1.toNatClampNeg) + 1)), rfl, hw, by rw [ht]; exact hP9, hD9⟩, hS.F ht⟩) hS.2.2 dSc_take_23
def wp_Sc_copyFrom (post : Int32 → (Nat → Int32) → (Nat → Int64) → (Nat → Int32) → Prop) (sc_cells : Int32) (sW : (Nat → Int32)) (sV : (Nat → Int64)) (sT : (Nat → Int32)) (sc2_cells : Int32) (sW2 : (Nat → Int32)) (sV2 : (Nat → Int64)) (sT2 : (Nat → Int32)) : Prop := (post sc2_cells (va_cpy sW2 sW (0 : Int32).toNatClampNeg (0 : Int32).toNatClampNeg (40 : Int32).toNatClampNeg) (va_cpy sV2 sV (0 : Int32).toNatClampNeg (0 : Int32).toNatClampNeg (40 : Int32).toNatClampNeg) (va_cpy sT2 sT (0 : Int32).toNatClampNeg (0 : Int32).toNatClampNeg (201 : Int32).toNatClampNeg))
set_option maxHeartbeats 4000000 in
set_option maxRecDepth 100000 in
theorem met_Sc_copyFrom (l : Launch) (dC : Nat → ClassId) (dI : Nat → Nat → Nat) (cI cL cB : ClassId) (sz : Nat) (h_sc h_sW h_sV h_sT h_sc2 h_sW2 h_sV2 h_sT2 : Nat) (sc_cells : Int32) (sW : (Nat → Int32)) (sV : (Nat → Int64)) (sT : (Nat → Int32)) (sc2_cells : Int32) (sW2 : (Nat → Int32)) (sV2 : (Nat → Int64)) (sT2 : (Nat → Int32)) (post : Int32 → (Nat → Int32) → (Nat → Int64) → (Nat → Int32) → Prop) (hw : wp_Sc_copyFrom post sc_cells sW sV sT sc2_cells sW2 sV2 sT2) : Met l ySc_copyFrom wsSc_copyFrom ({ frames := 1, cells := 0, slots := 0, locals := 60 } : Room) (va_Pc [.ref h_sc, .ref h_sc2] (fun U => U.heap.size = sz ∧ va_P (dC, dI) vwCl [(h_sc, .inr (5, [.ref h_sW, .ref h_sV, .ref h_sT, .int sc_cells])), (h_sW, .inl (cI, 40, .inl sW)), (h_sV, .inl (cL, 40, .inr (.inl sV))), (h_sT, .inl (cI, 201, .inl sT)), (h_sc2, .inr (5, [.ref h_sW2, .ref h_sV2, .ref h_sT2, .int sc2_cells])), (h_sW2, .inl (cI, 40, .inl sW2)), (h_sV2, .inl (cL, 40, .inr (.inl sV2))), (h_sT2, .inl (cI, 201, .inl sT2))] U.heap ∧ KK dC dI cI cL cB U ∧ va_D (fun _ => True) [(h_sc, .inr (5, [.ref h_sW, .ref h_sV, .ref h_sT, .int sc_cells])), (h_sW, .inl (cI, 40, .inl sW)), (h_sV, .inl (cL, 40, .inr (.inl sV))), (h_sT, .inl (cI, 201, .inl sT)), (h_sc2, .inr (5, [.ref h_sW2, .ref h_sV2, .ref h_sT2, .int sc2_cells])), (h_sW2, .inl (cI, 40, .inl sW2)), (h_sV2, .inl (cL, 40, .inr (.inl sV2))), (h_sT2, .inl (cI, 201, .inl sT2))])) (va_Qv (fun (u : Int32 × (Nat → Int32) × (Nat → Int64) × (Nat → Int32)) => post u.1 u.2.1 u.2.2.1 u.2.2.2) (fun (u : Int32 × (Nat → Int32) × (Nat → Int64) × (Nat → Int32)) t => va_P (dC, dI) vwCl [(h_sc, .inr (5, [.ref h_sW, .ref h_sV, .ref h_sT, .int u.1])), (h_sW, .inl (cI, 40, .inl u.2.1)), (h_sV, .inl (cL, 40, .inr (.inl u.2.2.1))), (h_sT, .inl (cI, 201, .inl u.2.2.2)), (h_sc2, .inr (5, [.ref h_sW2, .ref h_sV2, .ref h_sT2, .int sc2_cells])), (h_sW2, .inl (cI, 40, .inl sW2)), (h_sV2, .inl (cL, 40, .inr (.inl sV2))), (h_sT2, .inl (cI, 201, .inl sT2))] t.heap ∧ va_D (va_A [(h_sc, .inr (5, [.ref h_sW, .ref h_sV, .ref h_sT, .int sc_cells])), (h_sW, .inl (cI, 40, .inl sW)), (h_sV, .inl (cL, 40, .inr (.inl sV))), (h_sT, .inl (cI, 201, .inl sT)), (h_sc2, .inr (5, [.ref h_sW2, .ref h_sV2, .ref h_sT2, .int sc2_cells])), (h_sW2, .inl (cI, 40, .inl sW2)), (h_sV2, .inl (cL, 40, .inr (.inl sV2))), (h_sT2, .inl (cI, 201, .inl sT2))] sz) [(h_sc, .inr (5, [.ref h_sW, .ref h_sV, .ref h_sT, .int u.1])), (h_sW, .inl (cI, 40, .inl u.2.1)), (h_sV, .inl (cL, 40, .inr (.inl u.2.2.1))), (h_sT, .inl (cI, 201, .inl u.2.2.2)), (h_sc2, .inr (5, [.ref h_sW2, .ref h_sV2, .ref h_sT2, .int sc2_cells])), (h_sW2, .inl (cI, 40, .inl sW2)), (h_sV2, .inl (cL, 40, .inr (.inl sV2))), (h_sT2, .inl (cI, 201, .inl sT2))]) (va_A [(h_sc, .inr (5, [.ref h_sW, .ref h_sV, .ref h_sT, .int sc_cells])), (h_sW, .inl (cI, 40, .inl sW)), (h_sV, .inl (cL, 40, .inr (.inl sV))), (h_sT, .inl (cI, 201, .inl sT)), (h_sc2, .inr (5, [.ref h_sW2, .ref h_sV2, .ref h_sT2, .int sc2_cells])), (h_sW2, .inl (cI, 40, .inl sW2)), (h_sV2, .inl (cL, 40, .inr (.inl sV2))), (h_sT2, .inl (cI, 201, .inl sT2))] sz)) 0 0 (va_A [(h_sc, .inr (5, [.ref h_sW, .ref h_sV, .ref h_sT, .int sc_cells])), (h_sW, .inl (cI, 40, .inl sW)), (h_sV, .inl (cL, 40, .inr (.inl sV))), (h_sT, .inl (cI, 201, .inl sT)), (h_sc2, .inr (5, [.ref h_sW2, .ref h_sV2, .ref h_sT2, .int sc2_cells])), (h_sW2, .inl (cI, 40, .inl sW2)), (h_sV2, .inl (cL, 40, .inr (.inl sV2))), (h_sT2, .inl (cI, 201, .inl sT2))] sz) := by
  refine Met.ofW (cc := cSc_copyFrom) (maxL := 2) (ret := none) (by decide) rfl ?_
  intro p e s m args below meth c s₁ B hml hv
  obtain ⟨rfl, hsz, hP, hK, hD0⟩ := hv
  have hx := B.exec
  have hb := B.bytes
  have hr := B.returns
  have hts := atoms_spec (ws := wsSc_copyFrom) B.pre
  have hown : s.vm.findClass RSc = some m.cls := findClass_of_methodNamed B.named
  have hlocks := B.notSynchronized
  subst hsz
  have hD := hD0.self (sz := s.heap.size)
  generalize hAe : va_A [(h_sc, .inr (5, [.ref h_sW, .ref h_sV, .ref h_sT, .int sc_cells])), (h_sW, .inl (cI, 40, .inl sW)), (h_sV, .inl (cL, 40, .inr (.inl sV))), (h_sT, .inl (cI, 201, .inl sT)), (h_sc2, .inr (5, [.ref h_sW2, .ref h_sV2, .ref h_sT2, .int sc2_cells])), (h_sW2, .inl (cI, 40, .inl sW2)), (h_sV2, .inl (cL, 40, .inr (.inl sV2))), (h_sT2, .inl (cI, 201, .inl sT2))] s.heap.size = A at hD ⊢
  have hA : ∀ q : Nat, s.heap.size ≤ q → A q := fun q h => by rw [← hAe]; exact Or.inr h
  have hS : va_S A s.heap s.heap [] := va_S.rf
  have hP : va_P (dC, dI) vwCl [(h_sc, .inr (5, [.ref h_sW, .ref h_sV, .ref h_sT, .int sc_cells])), (h_sW, .inl (cI, 40, .inl sW)), (h_sV, .inl (cL, 40, .inr (.inl sV))), (h_sT, .inl (cI, 201, .inl sT)), (h_sc2, .inr (5, [.ref h_sW2, .ref h_sV2, .ref h_sT2, .int sc2_cells])), (h_sW2, .inl (cI, 40, .inl sW2)), (h_sV2, .inl (cL, 40, .inr (.inl sV2))), (h_sT2, .inl (cI, 201, .inl sT2))] s.heap := hP
  have htb : ∀ w ∈ TB, w.before _ s = true := fun w h => hts w (List.mem_cons_of_mem _ h)
  have hf_9 := htb _ kw_133
  have hf_15 := htb _ kw_134
  have hf_19 := htb _ kw_135
  have hf_22 := htb _ kw_136
  have hl := lv_entry ([.ref h_sc, .ref h_sc2]) (n := 2) (Nat.le_of_ble_eq_true rfl)
  rw [lg_entry_eq]
  generalize (lg_sl ([.ref h_sc, .ref h_sc2]) ++ List.replicate (2 - (lg_sl ([.ref h_sc, .ref h_sc2])).length) Slot.unset).toArray = ls at hl ⊢
  have hl : lv_has ls 2 [(0, .ref h_sc), (1, .ref h_sc2)] := hl
  unfold wp_Sc_copyFrom at hw
  refine lv_aload_n hx hb dSc_copyFrom_0 rfl (lv_at hl 0 rfl) ?_
  refine lv_aload_n hx hb dSc_copyFrom_1 rfl (lv_at hl 1 rfl) ?_
  refine va_get (D := (dC, dI)) (ci := 5) (v := .int sc2_cells) (C := RSc) (T := TSc) (N := 4) hx hb htb in_Sc hown hK.1 hP 4 rfl rfl 3 (by decide) hf_22 (fun _ h9 => h9) rfl dSc_copyFrom_2 ?_
  refine va_put (D := (dC, dI)) (ci := 5) (v := .int sc2_cells) (ty := .int) (C := RSc) (T := TSc) (N := 4) hx hb htb in_Sc tySc tySc_ok nmSc hown hK.1 hP hD hS 0 rfl rfl 3 (by decide) hf_22 (fun _ h9 => h9) rfl (by decide +kernel) rfl rfl (Nat.le_of_ble_eq_true rfl) dSc_copyFrom_5 (fun H locs hP hD hS => ?_)
  have hP : va_P (dC, dI) vwCl [(h_sc, .inr (5, [.ref h_sW, .ref h_sV, .ref h_sT, .int sc2_cells])), (h_sW, .inl (cI, 40, .inl sW)), (h_sV, .inl (cL, 40, .inr (.inl sV))), (h_sT, .inl (cI, 201, .inl sT)), (h_sc2, .inr (5, [.ref h_sW2, .ref h_sV2, .ref h_sT2, .int sc2_cells])), (h_sW2, .inl (cI, 40, .inl sW2)), (h_sV2, .inl (cL, 40, .inr (.inl sV2))), (h_sT2, .inl (cI, 201, .inl sT2))] H := hP
  have hD : va_D A [(h_sc, .inr (5, [.ref h_sW, .ref h_sV, .ref h_sT, .int sc2_cells])), (h_sW, .inl (cI, 40, .inl sW)), (h_sV, .inl (cL, 40, .inr (.inl sV))), (h_sT, .inl (cI, 201, .inl sT)), (h_sc2, .inr (5, [.ref h_sW2, .ref h_sV2, .ref h_sT2, .int sc2_cells])), (h_sW2, .inl (cI, 40, .inl sW2)), (h_sV2, .inl (cL, 40, .inr (.inl sV2))), (h_sT2, .inl (cI, 201, .inl sT2))] := hD
  refine lv_aload_n hx hb dSc_copyFrom_8 rfl (lv_at hl 1 rfl) ?_
  refine va_get (D := (dC, dI)) (ci := 5) (v := .ref h_sW2) (C := RSc) (T := TSc) (N := 4) hx hb htb in_Sc hown hK.1 hP 4 rfl rfl 0 (by decide) hf_9 (fun _ h9 => h9) rfl dSc_copyFrom_9 ?_
  refine lv_iconst (v := 0) hx hb dSc_copyFrom_12 (by decide) ?_
  refine lv_aload_n hx hb dSc_copyFrom_13 rfl (lv_at hl 0 rfl) ?_
  refine va_get (D := (dC, dI)) (ci := 5) (v := .ref h_sW) (C := RSc) (T := TSc) (N := 4) hx hb htb in_Sc hown hK.1 hP 0 rfl rfl 0 (by decide) hf_9 (fun _ h9 => h9) rfl dSc_copyFrom_14 ?_
  refine lv_iconst (v := 0) hx hb dSc_copyFrom_17 (by decide) ?_
  refine lv_aload_n hx hb dSc_copyFrom_18 rfl (lv_at hl 0 rfl) ?_
  refine va_get (D := (dC, dI)) (ci := 5) (v := .ref h_sW) (C := RSc) (T := TSc) (N := 4) hx hb htb in_Sc hown hK.1 hP 0 rfl rfl 0 (by decide) hf_9 (fun _ h9 => h9) rfl dSc_copyFrom_19 ?_
  refine va_alen (v := 40) hx hb hK.1 hP 1 0 rfl rfl (show Int32.ofNat 40 = 40 by decide +kernel) dSc_copyFrom_22 ?_
  refine va_copyi hx hb (hml.trans hl.1.symm) hown (htb _ kw_542) (htb _ kw_544) (htb _ kw_543) (htb _ kw_53) hK.1 hP hD hS 5 1 0 0 rfl rfl rfl rfl rfl (by decide) (by decide) (by decide) (by decide +kernel) (by decide +kernel) (fun _ _ => rfl) (Nat.le_of_ble_eq_true rfl) (by decide +kernel) dSc_copyFrom_23 (fun H locs hP hD hS => ?_)
  have hP : va_P (dC, dI) vwCl [(h_sc, .inr (5, [.ref h_sW, .ref h_sV, .ref h_sT, .int sc2_cells])), (h_sW, .inl (cI, 40, .inl (va_cpy sW2 sW (0 : Int32).toNatClampNeg (0 : Int32).toNatClampNeg (40 : Int32).toNatClampNeg))), (h_sV, .inl (cL, 40, .inr (.inl sV))), (h_sT, .inl (cI, 201, .inl sT)), (h_sc2, .inr (5, [.ref h_sW2, .ref h_sV2, .ref h_sT2, .int sc2_cells])), (h_sW2, .inl (cI, 40, .inl sW2)), (h_sV2, .inl (cL, 40, .inr (.inl sV2))), (h_sT2, .inl (cI, 201, .inl sT2))] H := hP
  have hD : va_D A [(h_sc, .inr (5, [.ref h_sW, .ref h_sV, .ref h_sT, .int sc2_cells])), (h_sW, .inl (cI, 40, .inl (va_cpy sW2 sW (0 : Int32).toNatClampNeg (0 : Int32).toNatClampNeg (40 : Int32).toNatClampNeg))), (h_sV, .inl (cL, 40, .inr (.inl sV))), (h_sT, .inl (cI, 201, .inl sT)), (h_sc2, .inr (5, [.ref h_sW2, .ref h_sV2, .ref h_sT2, .int sc2_cells])), (h_sW2, .inl (cI, 40, .inl sW2)), (h_sV2, .inl (cL, 40, .inr (.inl sV2))), (h_sT2, .inl (cI, 201, .inl sT2))] := hD
  refine lv_aload_n hx hb dSc_copyFrom_26 rfl (lv_at hl 1 rfl) ?_
  refine va_get (D := (dC, dI)) (ci := 5) (v := .ref h_sV2) (C := RSc) (T := TSc) (N := 4) hx hb htb in_Sc hown hK.1 hP 4 rfl rfl 1 (by decide) hf_15 (fun _ h9 => h9) rfl dSc_copyFrom_27 ?_
  refine lv_iconst (v := 0) hx hb dSc_copyFrom_30 (by decide) ?_
  refine lv_aload_n hx hb dSc_copyFrom_31 rfl (lv_at hl 0 rfl) ?_
  refine va_get (D := (dC, dI)) (ci := 5) (v := .ref h_sV) (C := RSc) (T := TSc) (N := 4) hx hb htb in_Sc hown hK.1 hP 0 rfl rfl 1 (by decide) hf_15 (fun _ h9 => h9) rfl dSc_copyFrom_32 ?_
  refine lv_iconst (v := 0) hx hb dSc_copyFrom_35 (by decide) ?_
  refine lv_aload_n hx hb dSc_copyFrom_36 rfl (lv_at hl 0 rfl) ?_
  refine va_get (D := (dC, dI)) (ci := 5) (v := .ref h_sV) (C := RSc) (T := TSc) (N := 4) hx hb htb in_Sc hown hK.1 hP 0 rfl rfl 1 (by decide) hf_15 (fun _ h9 => h9) rfl dSc_copyFrom_37 ?_
  refine va_alen (v := 40) hx hb hK.1 hP 2 1 rfl rfl (show Int32.ofNat 40 = 40 by decide +kernel) dSc_copyFrom_40 ?_
  refine va_copyl hx hb (hml.trans hl.1.symm) hown (htb _ kw_542) (htb _ kw_544) (htb _ kw_543) (htb _ kw_53) hK.1 hP hD hS 6 2 1 1 rfl rfl rfl rfl rfl (by decide) (by decide) (by decide) (by decide +kernel) (by decide +kernel) (fun _ _ => rfl) (Nat.le_of_ble_eq_true rfl) (by decide +kernel) dSc_copyFrom_41 (fun H locs hP hD hS => ?_)
  have hP : va_P (dC, dI) vwCl [(h_sc, .inr (5, [.ref h_sW, .ref h_sV, .ref h_sT, .int sc2_cells])), (h_sW, .inl (cI, 40, .inl (va_cpy sW2 sW (0 : Int32).toNatClampNeg (0 : Int32).toNatClampNeg (40 : Int32).toNatClampNeg))), (h_sV, .inl (cL, 40, .inr (.inl (va_cpy sV2 sV (0 : Int32).toNatClampNeg (0 : Int32).toNatClampNeg (40 : Int32).toNatClampNeg)))), (h_sT, .inl (cI, 201, .inl sT)), (h_sc2, .inr (5, [.ref h_sW2, .ref h_sV2, .ref h_sT2, .int sc2_cells])), (h_sW2, .inl (cI, 40, .inl sW2)), (h_sV2, .inl (cL, 40, .inr (.inl sV2))), (h_sT2, .inl (cI, 201, .inl sT2))] H := hP
  have hD : va_D A [(h_sc, .inr (5, [.ref h_sW, .ref h_sV, .ref h_sT, .int sc2_cells])), (h_sW, .inl (cI, 40, .inl (va_cpy sW2 sW (0 : Int32).toNatClampNeg (0 : Int32).toNatClampNeg (40 : Int32).toNatClampNeg))), (h_sV, .inl (cL, 40, .inr (.inl (va_cpy sV2 sV (0 : Int32).toNatClampNeg (0 : Int32).toNatClampNeg (40 : Int32).toNatClampNeg)))), (h_sT, .inl (cI, 201, .inl sT)), (h_sc2, .inr (5, [.ref h_sW2, .ref h_sV2, .ref h_sT2, .int sc2_cells])), (h_sW2, .inl (cI, 40, .inl sW2)), (h_sV2, .inl (cL, 40, .inr (.inl sV2))), (h_sT2, .inl (cI, 201, .inl sT2))] := hD
  refine lv_aload_n hx hb dSc_copyFrom_44 rfl (lv_at hl 1 rfl) ?_
  refine va_get (D := (dC, dI)) (ci := 5) (v := .ref h_sT2) (C := RSc) (T := TSc) (N := 4) hx hb htb in_Sc hown hK.1 hP 4 rfl rfl 2 (by decide) hf_19 (fun _ h9 => h9) rfl dSc_copyFrom_45 ?_
  refine lv_iconst (v := 0) hx hb dSc_copyFrom_48 (by decide) ?_
  refine lv_aload_n hx hb dSc_copyFrom_49 rfl (lv_at hl 0 rfl) ?_
  refine va_get (D := (dC, dI)) (ci := 5) (v := .ref h_sT) (C := RSc) (T := TSc) (N := 4) hx hb htb in_Sc hown hK.1 hP 0 rfl rfl 2 (by decide) hf_19 (fun _ h9 => h9) rfl dSc_copyFrom_50 ?_
  refine lv_iconst (v := 0) hx hb dSc_copyFrom_53 (by decide) ?_
  refine lv_aload_n hx hb dSc_copyFrom_54 rfl (lv_at hl 0 rfl) ?_
  refine va_get (D := (dC, dI)) (ci := 5) (v := .ref h_sT) (C := RSc) (T := TSc) (N := 4) hx hb htb in_Sc hown hK.1 hP 0 rfl rfl 2 (by decide) hf_19 (fun _ h9 => h9) rfl dSc_copyFrom_55 ?_
  refine va_alen (v := 201) hx hb hK.1 hP 3 0 rfl rfl (show Int32.ofNat 201 = 201 by decide +kernel) dSc_copyFrom_58 ?_
  refine va_copyi hx hb (hml.trans hl.1.symm) hown (htb _ kw_542) (htb _ kw_544) (htb _ kw_543) (htb _ kw_53) hK.1 hP hD hS 7 3 0 0 rfl rfl rfl rfl rfl (by decide) (by decide) (by decide) (by decide +kernel) (by decide +kernel) (fun _ _ => rfl) (Nat.le_of_ble_eq_true rfl) (by decide +kernel) dSc_copyFrom_59 (fun H locs hP hD hS => ?_)
  have hP : va_P (dC, dI) vwCl [(h_sc, .inr (5, [.ref h_sW, .ref h_sV, .ref h_sT, .int sc2_cells])), (h_sW, .inl (cI, 40, .inl (va_cpy sW2 sW (0 : Int32).toNatClampNeg (0 : Int32).toNatClampNeg (40 : Int32).toNatClampNeg))), (h_sV, .inl (cL, 40, .inr (.inl (va_cpy sV2 sV (0 : Int32).toNatClampNeg (0 : Int32).toNatClampNeg (40 : Int32).toNatClampNeg)))), (h_sT, .inl (cI, 201, .inl (va_cpy sT2 sT (0 : Int32).toNatClampNeg (0 : Int32).toNatClampNeg (201 : Int32).toNatClampNeg))), (h_sc2, .inr (5, [.ref h_sW2, .ref h_sV2, .ref h_sT2, .int sc2_cells])), (h_sW2, .inl (cI, 40, .inl sW2)), (h_sV2, .inl (cL, 40, .inr (.inl sV2))), (h_sT2, .inl (cI, 201, .inl sT2))] H := hP
  have hD : va_D A [(h_sc, .inr (5, [.ref h_sW, .ref h_sV, .ref h_sT, .int sc2_cells])), (h_sW, .inl (cI, 40, .inl (va_cpy sW2 sW (0 : Int32).toNatClampNeg (0 : Int32).toNatClampNeg (40 : Int32).toNatClampNeg))), (h_sV, .inl (cL, 40, .inr (.inl (va_cpy sV2 sV (0 : Int32).toNatClampNeg (0 : Int32).toNatClampNeg (40 : Int32).toNatClampNeg)))), (h_sT, .inl (cI, 201, .inl (va_cpy sT2 sT (0 : Int32).toNatClampNeg (0 : Int32).toNatClampNeg (201 : Int32).toNatClampNeg))), (h_sc2, .inr (5, [.ref h_sW2, .ref h_sV2, .ref h_sT2, .int sc2_cells])), (h_sW2, .inl (cI, 40, .inl sW2)), (h_sV2, .inl (cL, 40, .inr (.inl sV2))), (h_sT2, .inl (cI, 201, .inl sT2))] := hD
  have hP9 := hP.sub (ws' := [(h_sc, .inr (5, [.ref h_sW, .ref h_sV, .ref h_sT, .int sc2_cells])), (h_sW, .inl (cI, 40, .inl (va_cpy sW2 sW (0 : Int32).toNatClampNeg (0 : Int32).toNatClampNeg (40 : Int32).toNatClampNeg))), (h_sV, .inl (cL, 40, .inr (.inl (va_cpy sV2 sV (0 : Int32).toNatClampNeg (0 : Int32).toNatClampNeg (40 : Int32).toNatClampNeg)))), (h_sT, .inl (cI, 201, .inl (va_cpy sT2 sT (0 : Int32).toNatClampNeg (0 : Int32).toNatClampNeg (201 : Int32).toNatClampNeg))), (h_sc2, .inr (5, [.ref h_sW2, .ref h_sV2, .ref h_sT2, .int sc2_cells])), (h_sW2, .inl (cI, 40, .inl sW2)), (h_sV2, .inl (cL, 40, .inr (.inl sV2))), (h_sT2, .inl (cI, 201, .inl sT2))]) [0, 1, 2, 3, 4, 5, 6, 7] rfl
  have hD9 := hD.sub (ws' := [(h_sc, .inr (5, [.ref h_sW, .ref h_sV, .ref h_sT, .int sc2_cells])), (h_sW, .inl (cI, 40, .inl (va_cpy sW2 sW (0 : Int32).toNatClampNeg (0 : Int32).toNatClampNeg (40 : Int32).toNatClampNeg))), (h_sV, .inl (cL, 40, .inr (.inl (va_cpy sV2 sV (0 : Int32).toNatClampNeg (0 : Int32).toNatClampNeg (40 : Int32).toNatClampNeg)))), (h_sT, .inl (cI, 201, .inl (va_cpy sT2 sT (0 : Int32).toNatClampNeg (0 : Int32).toNatClampNeg (201 : Int32).toNatClampNeg))), (h_sc2, .inr (5, [.ref h_sW2, .ref h_sV2, .ref h_sT2, .int sc2_cells])), (h_sW2, .inl (cI, 40, .inl sW2)), (h_sV2, .inl (cL, 40, .inr (.inl sV2))), (h_sT2, .inl (cI, 201, .inl sT2))]) [0, 1, 2, 3, 4, 5, 6, 7] (by decide) rfl
  exact W.vret hx hb hr (fun t ht hW => ⟨⟨(sc2_cells, (va_cpy sW2 sW (0 : Int32).toNatClampNeg (0 : Int32).toNatClampNeg (40 : Int32).toNatClampNeg), (va_cpy sV2 sV (0 : Int32).toNatClampNeg (0 : Int32).toNatClampNeg (40 : Int32).toNatClampNeg), (va_cpy sT2 sT (0 : Int32).toNatClampNeg (0 : Int32).toNatClampNeg (201 : Int32).toNatClampNeg)), rfl, hw, by rw [ht]; exact hP9, hD9⟩, hS.F ht⟩) hS.2.2 dSc_copyFrom_62
def wl_Sc_isLike_37 (post : Int32 → Prop) (sc_cells : Int32) (sV : (Nat → Int64)) (sT : (Nat → Int32)) (sc2_cells : Int32) (sV2 : (Nat → Int64)) (sT2 : (Nat → Int32)) : Nat → Int32 → Prop
  | 0, _ => False
  | n + 1, y2 => ((201 ≤ y2 → (post 1)) ∧ (¬ 201 ≤ y2 → (vp_in y2 201 ∧ (vp_in y2 201 ∧ (((sT y2.toNatClampNeg) = (sT2 y2.toNatClampNeg) → (wl_Sc_isLike_37 post sc_cells sV sT sc2_cells sV2 sT2 n (y2 + 1))) ∧ (¬ (sT y2.toNatClampNeg) = (sT2 y2.toNatClampNeg) → (post 0)))))))
def wl_Sc_isLike_2 (post : Int32 → Prop) (sc_cells : Int32) (sV : (Nat → Int64)) (sT : (Nat → Int32)) (sc2_cells : Int32) (sV2 : (Nat → Int64)) (sT2 : (Nat → Int32)) : Nat → Int32 → Prop
  | 0, _ => False
  | n + 1, y2 => ((40 ≤ y2 → (∃ n : Nat, wl_Sc_isLike_37 post sc_cells sV sT sc2_cells sV2 sT2 n 0)) ∧ (¬ 40 ≤ y2 → (vp_in y2 40 ∧ (vp_in y2 40 ∧ (((lg_cmp (sV y2.toNatClampNeg) (sV2 y2.toNatClampNeg)) = 0 → (wl_Sc_isLike_2 post sc_cells sV sT sc2_cells sV2 sT2 n (y2 + 1))) ∧ (¬ (lg_cmp (sV y2.toNatClampNeg) (sV2 y2.toNatClampNeg)) = 0 → (post 0)))))))
def wp_Sc_isLike (post : Int32 → Prop) (sc_cells : Int32) (sV : (Nat → Int64)) (sT : (Nat → Int32)) (sc2_cells : Int32) (sV2 : (Nat → Int64)) (sT2 : (Nat → Int32)) : Prop := (∃ n : Nat, wl_Sc_isLike_2 post sc_cells sV sT sc2_cells sV2 sT2 n 0)
set_option maxHeartbeats 4000000 in
set_option maxRecDepth 100000 in
theorem met_Sc_isLike (l : Launch) (dC : Nat → ClassId) (dI : Nat → Nat → Nat) (cI cL cB : ClassId) (h_sc h_sW h_sV h_sT h_sc2 h_sW2 h_sV2 h_sT2 : Nat) (sc_cells : Int32) (sV : (Nat → Int64)) (sT : (Nat → Int32)) (sc2_cells : Int32) (sV2 : (Nat → Int64)) (sT2 : (Nat → Int32)) (post : Int32 → Prop) (hw : wp_Sc_isLike post sc_cells sV sT sc2_cells sV2 sT2) : Met l ySc_isLike wsSc_isLike ({ frames := 0, cells := 0, slots := 0, locals := 0 } : Room) (va_Pc [.ref h_sc, .ref h_sc2] (fun U => va_P (dC, dI) vwCl [(h_sc, .inr (5, [.ref h_sW, .ref h_sV, .ref h_sT, .int sc_cells])), (h_sV, .inl (cL, 40, .inr (.inl sV))), (h_sT, .inl (cI, 201, .inl sT)), (h_sc2, .inr (5, [.ref h_sW2, .ref h_sV2, .ref h_sT2, .int sc2_cells])), (h_sV2, .inl (cL, 40, .inr (.inl sV2))), (h_sT2, .inl (cI, 201, .inl sT2))] U.heap ∧ KK dC dI cI cL cB U)) (ro_i post) 0 0 (fun _ => False) := by
  refine Met.ofW (cc := cSc_isLike) (maxL := 3) (ret := (some .boolean)) (by decide) rfl ?_
  intro p e s m args below meth c s₁ B hml hv
  obtain ⟨rfl, hP, hK⟩ := hv
  have hx := B.exec
  have hb := B.bytes
  have hr := B.returns
  have hts := atoms_spec (ws := wsSc_isLike) B.pre
  have hown : s.vm.findClass RSc = some m.cls := findClass_of_methodNamed B.named
  have hlocks := B.notSynchronized
  have hS : va_S (fun _ => False) s.heap s.heap [] := va_S.rf
  obtain ⟨Q, hQ⟩ : ∃ Q : State → Prop, Q = MQ below (ro_i post) ([.ref h_sc, .ref h_sc2] : List Value).toArray s 0 0 (fun _ => False) := ⟨_, rfl⟩
  rw [← hQ]
  have htb : ∀ w ∈ TB, w.before _ s = true := fun w h => hts w (List.mem_cons_of_mem _ h)
  have hf_15 := htb _ kw_134
  have hf_19 := htb _ kw_135
  have lp_37 : ∀ (n : Nat) (y2 : Int32), wl_Sc_isLike_37 post sc_cells sV sT sc2_cells sV2 sT2 n y2 → ∀ (ls : Array Slot), lv_has ls 3 [(0, .ref h_sc), (1, .ref h_sc2), (2, .int y2)] → W p l e (headSpec wsSc_isLike ({ frames := 0, cells := 0, slots := 0, locals := 0 } : Room)).room s m ([.ref h_sc, .ref h_sc2] : List Value).toArray below meth c s.heap [] 0 0 Q (F0 m 37 ls []) := by
    intro n
    induction n with
    | zero => intro y2 hw; exact absurd hw id
    | succ n ih =>
      intro y2 hw ls hl
      refine lv_iload_n hx hb dSc_isLike_37 rfl (lv_at hl 2 rfl) ?_
      refine lv_aload_n hx hb dSc_isLike_38 rfl (lv_at hl 0 rfl) ?_
      refine va_get (D := (dC, dI)) (ci := 5) (v := .ref h_sT) (C := RSc) (T := TSc) (N := 4) hx hb htb in_Sc hown hK.1 hP 0 rfl rfl 2 (by decide) hf_19 (fun _ h9 => h9) rfl dSc_isLike_39 ?_
      refine va_alen (v := 201) hx hb hK.1 hP 2 0 rfl rfl (show Int32.ofNat 201 = 201 by decide +kernel) dSc_isLike_42 ?_
      refine lv_icmp_ge (tgt := 69) hx hb dSc_isLike_43 (by decide) (fun c_43 => ?_) (fun c_43 => ?_)
      · have hw := hw.1 c_43
        refine lv_iconst (v := 1) hx hb dSc_isLike_69 (by decide) ?_
        rw [hQ]
        exact W.zret (v := 1) hx hb hr (by decide) (fun t ht hW => ⟨_, rfl, hw, ht⟩) (fun q h => absurd h List.not_mem_nil) dSc_isLike_70
      · have hw := hw.2 c_43
        refine lv_aload_n hx hb dSc_isLike_46 rfl (lv_at hl 0 rfl) ?_
        refine va_get (D := (dC, dI)) (ci := 5) (v := .ref h_sT) (C := RSc) (T := TSc) (N := 4) hx hb htb in_Sc hown hK.1 hP 0 rfl rfl 2 (by decide) hf_19 (fun _ h9 => h9) rfl dSc_isLike_47 ?_
        refine lv_iload_n hx hb dSc_isLike_50 rfl (lv_at hl 2 rfl) ?_
        obtain ⟨hin, hw⟩ := hw
        refine va_iald hx hb hK.1 hP 2 0 rfl rfl hin dSc_isLike_51 ?_
        refine lv_aload_n hx hb dSc_isLike_52 rfl (lv_at hl 1 rfl) ?_
        refine va_get (D := (dC, dI)) (ci := 5) (v := .ref h_sT2) (C := RSc) (T := TSc) (N := 4) hx hb htb in_Sc hown hK.1 hP 3 rfl rfl 2 (by decide) hf_19 (fun _ h9 => h9) rfl dSc_isLike_53 ?_
        refine lv_iload_n hx hb dSc_isLike_56 rfl (lv_at hl 2 rfl) ?_
        obtain ⟨hin, hw⟩ := hw
        refine va_iald hx hb hK.1 hP 5 0 rfl rfl hin dSc_isLike_57 ?_
        refine lv_icmp_eq (tgt := 63) hx hb dSc_isLike_58 (by decide) (fun c_58 => ?_) (fun c_58 => ?_)
        · have hw := hw.1 c_58
          refine lv_iinc (v := (y2 + 1)) (lv' := [(2, .int (y2 + 1)), (0, .ref h_sc), (1, .ref h_sc2)]) hx hb dSc_isLike_63 hl (k := 2) rfl rfl (by decide) rfl (fun ls hl => ?_)
          refine lv_goto (tgt := 37) hx hb dSc_isLike_66 (by decide) ?_
          exact ih (y2 + 1) hw ls (lv_sub hl [1, 2, 0] rfl)
        · have hw := hw.2 c_58
          refine lv_iconst (v := 0) hx hb dSc_isLike_61 (by decide) ?_
          rw [hQ]
          exact W.zret (v := 0) hx hb hr (by decide) (fun t ht hW => ⟨_, rfl, hw, ht⟩) (fun q h => absurd h List.not_mem_nil) dSc_isLike_62
  have lp_2 : ∀ (n : Nat) (y2 : Int32), wl_Sc_isLike_2 post sc_cells sV sT sc2_cells sV2 sT2 n y2 → ∀ (ls : Array Slot), lv_has ls 3 [(0, .ref h_sc), (1, .ref h_sc2), (2, .int y2)] → W p l e (headSpec wsSc_isLike ({ frames := 0, cells := 0, slots := 0, locals := 0 } : Room)).room s m ([.ref h_sc, .ref h_sc2] : List Value).toArray below meth c s.heap [] 0 0 Q (F0 m 2 ls []) := by
    intro n
    induction n with
    | zero => intro y2 hw; exact absurd hw id
    | succ n ih =>
      intro y2 hw ls hl
      refine lv_iload_n hx hb dSc_isLike_2 rfl (lv_at hl 2 rfl) ?_
      refine lv_aload_n hx hb dSc_isLike_3 rfl (lv_at hl 0 rfl) ?_
      refine va_get (D := (dC, dI)) (ci := 5) (v := .ref h_sV) (C := RSc) (T := TSc) (N := 4) hx hb htb in_Sc hown hK.1 hP 0 rfl rfl 1 (by decide) hf_15 (fun _ h9 => h9) rfl dSc_isLike_4 ?_
      refine va_alen (v := 40) hx hb hK.1 hP 1 1 rfl rfl (show Int32.ofNat 40 = 40 by decide +kernel) dSc_isLike_7 ?_
      refine lv_icmp_ge (tgt := 35) hx hb dSc_isLike_8 (by decide) (fun c_8 => ?_) (fun c_8 => ?_)
      · have hw := hw.1 c_8
        refine lv_iconst (v := 0) hx hb dSc_isLike_35 (by decide) ?_
        refine lv_istore_n (lv' := [(2, .int 0), (0, .ref h_sc), (1, .ref h_sc2)]) hx hb dSc_isLike_36 rfl hl (by decide) rfl (fun ls hl => ?_)
        obtain ⟨n9, hw⟩ := hw
        exact lp_37 n9 0 hw ls (lv_sub hl [1, 2, 0] rfl)
      · have hw := hw.2 c_8
        refine lv_aload_n hx hb dSc_isLike_11 rfl (lv_at hl 0 rfl) ?_
        refine va_get (D := (dC, dI)) (ci := 5) (v := .ref h_sV) (C := RSc) (T := TSc) (N := 4) hx hb htb in_Sc hown hK.1 hP 0 rfl rfl 1 (by decide) hf_15 (fun _ h9 => h9) rfl dSc_isLike_12 ?_
        refine lv_iload_n hx hb dSc_isLike_15 rfl (lv_at hl 2 rfl) ?_
        obtain ⟨hin, hw⟩ := hw
        refine va_lald hx hb hK.1 hP 1 1 rfl rfl hin dSc_isLike_16 ?_
        refine lv_aload_n hx hb dSc_isLike_17 rfl (lv_at hl 1 rfl) ?_
        refine va_get (D := (dC, dI)) (ci := 5) (v := .ref h_sV2) (C := RSc) (T := TSc) (N := 4) hx hb htb in_Sc hown hK.1 hP 3 rfl rfl 1 (by decide) hf_15 (fun _ h9 => h9) rfl dSc_isLike_18 ?_
        refine lv_iload_n hx hb dSc_isLike_21 rfl (lv_at hl 2 rfl) ?_
        obtain ⟨hin, hw⟩ := hw
        refine va_lald hx hb hK.1 hP 4 1 rfl rfl hin dSc_isLike_22 ?_
        refine W.lcmp hx hb dSc_isLike_23 ?_
        refine lv_if_eq (tgt := 29) hx hb dSc_isLike_24 (by decide) (fun c_24 => ?_) (fun c_24 => ?_)
        · have hw := hw.1 c_24
          refine lv_iinc (v := (y2 + 1)) (lv' := [(2, .int (y2 + 1)), (0, .ref h_sc), (1, .ref h_sc2)]) hx hb dSc_isLike_29 hl (k := 2) rfl rfl (by decide) rfl (fun ls hl => ?_)
          refine lv_goto (tgt := 2) hx hb dSc_isLike_32 (by decide) ?_
          exact ih (y2 + 1) hw ls (lv_sub hl [1, 2, 0] rfl)
        · have hw := hw.2 c_24
          refine lv_iconst (v := 0) hx hb dSc_isLike_27 (by decide) ?_
          rw [hQ]
          exact W.zret (v := 0) hx hb hr (by decide) (fun t ht hW => ⟨_, rfl, hw, ht⟩) (fun q h => absurd h List.not_mem_nil) dSc_isLike_28
  have hl := lv_entry ([.ref h_sc, .ref h_sc2]) (n := 3) (Nat.le_of_ble_eq_true rfl)
  rw [lg_entry_eq]
  generalize (lg_sl ([.ref h_sc, .ref h_sc2]) ++ List.replicate (3 - (lg_sl ([.ref h_sc, .ref h_sc2])).length) Slot.unset).toArray = ls at hl ⊢
  have hl : lv_has ls 3 [(0, .ref h_sc), (1, .ref h_sc2)] := hl
  unfold wp_Sc_isLike at hw
  refine lv_iconst (v := 0) hx hb dSc_isLike_0 (by decide) ?_
  refine lv_istore_n (lv' := [(2, .int 0), (0, .ref h_sc), (1, .ref h_sc2)]) hx hb dSc_isLike_1 rfl hl (by decide) rfl (fun ls hl => ?_)
  obtain ⟨n9, hw⟩ := hw
  exact lp_2 n9 0 hw ls (lv_sub hl [1, 2, 0] rfl)
