def iaN : String := "java/lang/IllegalArgumentException"
def iaUp : List String := ["java/lang/RuntimeException", "java/lang/Exception"]
def thA : List Cond := Bundle.ownAtoms "ParagraphWalk" 140 iaN iaUp
def inC (a1 sc_cells : Int32) : Prop := ¬ a1 < 0 ∧ ¬ sc_cells ≤ a1
theorem hasCell_in (sc_cells a1 : Int32) : wp_Sc_hasCell (fun r => (inC a1 sc_cells ∧ r = 1) ∨ (¬ inC a1 sc_cells ∧ r = 0)) sc_cells a1 :=
  ⟨fun h => Or.inr ⟨fun q => q.1 h, rfl⟩, fun h => ⟨fun h2 => Or.inr ⟨fun q => q.2 h2, rfl⟩, fun h2 => Or.inl ⟨⟨h, h2⟩, rfl⟩⟩⟩
def R_get : Room := { frames := 8, cells := 1, slots := 6, locals := 120 }
def R_lg : Room := { frames := 9, cells := 1, slots := 6, locals := 160 }
/-- how ParagraphWalk.get ends: with the value, or with a new exception -/
def GQ (below : List Frame) (args : Array Value) (s : State) (a1 sc_cells : Int32) (sV : Nat → Int64) : State → Prop := fun t =>
  (inC a1 sc_cells ∧ MQ below (ro_l (fun v => v = sV a1.toNatClampNeg)) args s 0 0 (fun _ => False) t) ∨
  (¬ inC a1 sc_cells ∧ ∃ (a : Nat) (ce : Cell), t.status = .running ∧ Ended t below (.threw a) ∧ s.WarmedH t.vm ∧ s.sameButNew ({ t with vm := s.vm } : State) [] 1 6 ∧ t.heap[a]? = some ce ∧ s.vm.findClass iaN = some ce.cls ∧ ce.vm = .none)
set_option maxHeartbeats 4000000 in
set_option maxRecDepth 100000 in
theorem get_body {p : Program} {l : Launch} {e : Env} {s : State} {m : MethodId} {below : List Frame} {meth : Method} {c : Code} {dC : Nat → ClassId} {dI : Nat → Nat → Nat} {cI cL cB : ClassId} {h_pw h_sc h_sW h_sV h_sT qs : Nat} {fs : List Value} {sc_cells a1 : Int32} {sV : Nat → Int64}
    (hx : p.tables.exec = Jvm.exec) (hb : c.code = cPw_get) (hml : c.maxLocals = 2) (hr : meth.sig.returnType = some .long) (hlocks : meth.locks = false) (hnoh : c.exceptionTable.isEmpty = true) (htr : e.platform.stackTraces = false)
    (hown : s.vm.findClass RPw = some m.cls) (htb : ∀ w ∈ TB, w.before ([.ref h_pw, .int a1] : List Value).toArray s = true) (hat : ∀ w ∈ thA, w.before ([.ref h_pw, .int a1] : List Value).toArray s = true) (hR : vk_R "ParagraphWalk" 138 "no such cell" qs s) (hK : KK dC dI cI cL cB s)
    (hfs : fs[4]? = some (.ref h_sc)) (hc40 : inC a1 sc_cells → vp_in a1 40) (hP : va_P (dC, dI) vwCl [(h_pw, .inr (8, fs)), (h_sc, .inr (5, [.ref h_sW, .ref h_sV, .ref h_sT, .int sc_cells])), (h_sV, .inl (cL, 40, .inr (.inl sV)))] s.heap) :
    W p l e R_get s m ([.ref h_pw, .int a1] : List Value).toArray below meth c s.heap [] 0 0 (GQ below ([.ref h_pw, .int a1] : List Value).toArray s a1 sc_cells sV) (entryFrame m ([.ref h_pw, .int a1] : List Value).toArray 2) := by
  have hf_41 := htb _ kw_264
  have hl := lv_entry ([.ref h_pw, .int a1]) (n := 2) (Nat.le_of_ble_eq_true rfl)
  rw [lg_entry_eq]
  generalize (lg_sl ([.ref h_pw, .int a1]) ++ List.replicate (2 - (lg_sl ([.ref h_pw, .int a1])).length) Slot.unset).toArray = ls at hl ⊢
  have hl : lv_has ls 2 [(0, .ref h_pw), (1, .int a1)] := hl
  refine lv_aload_n hx hb dPw_get_0 rfl (lv_at hl 0 rfl) ?_
  refine va_get (D := (dC, dI)) (ci := 8) (v := .ref h_sc) (C := RPw) (T := TPw) (N := 13) hx hb htb in_Pw hown hK.1 hP 0 rfl rfl 4 (by decide) hf_41 (fun _ h9 => h9) hfs dPw_get_1 ?_
  refine lv_iload_n hx hb dPw_get_4 rfl (lv_at hl 1 rfl) ?_
  have hPc := hP.sub (ws' := [(h_sc, .inr (5, [.ref h_sW, .ref h_sV, .ref h_sT, .int sc_cells]))]) [1] rfl
  refine ro_ci (va_runV (As := [.int a1]) (rest := []) ⟨hx, hb, hml, hown, htb⟩ (met_Sc_hasCell l dC dI cI cL cB h_sc h_sW h_sV h_sT sc_cells a1 _ (hasCell_in sc_cells a1)) (cwV 1 htb (gdV kw_607 kw_608 kw_609 kw_43 kw_610) rfl rfl rfl (by decide +kernel) ⟨Nat.le_of_ble_eq_true rfl, Nat.le_of_ble_eq_true rfl⟩) ⟨fun a U g mk q => by obtain ⟨q0, qP, qK⟩ := q; exact ⟨q0, qP, KK_c qK⟩, va_recv hK.1 hP (ci := 5) (q0 := 1) rfl rfl, fun U hU hW => ⟨rfl, by rw [hU]; exact hPc, KK_w hW hK⟩⟩ rfl rfl hl.1 rfl (lv_room (Nat.le_of_ble_eq_true rfl)) dPw_get_5 ⟨Nat.zero_le _, Nat.zero_le _⟩) (fun r hw => ?_)
  refine lv_if_ne (tgt := 21) hx hb dPw_get_8 (by decide) (fun c8 => ?_) (fun c8 => ?_)
  · have hin : inC a1 sc_cells := by rcases hw with h | h; exact h.1; exact absurd h.2 c8
    refine lv_aload_n hx hb dPw_get_21 rfl (lv_at hl 0 rfl) ?_
    refine va_get (D := (dC, dI)) (ci := 8) (v := .ref h_sc) (C := RPw) (T := TPw) (N := 13) hx hb htb in_Pw hown hK.1 hP 0 rfl rfl 4 (by decide) hf_41 (fun _ h9 => h9) hfs dPw_get_22 ?_
    refine lv_iload_n hx hb dPw_get_25 rfl (lv_at hl 1 rfl) ?_
    have hPd := hP.sub (ws' := [(h_sc, .inr (5, [.ref h_sW, .ref h_sV, .ref h_sT, .int sc_cells])), (h_sV, .inl (cL, 40, .inr (.inl sV)))]) [1, 2] rfl
    refine ro_cl (va_runV (As := [.int a1]) (rest := []) ⟨hx, hb, hml, hown, htb⟩ (met_Sc_valueOf l dC dI cI cL cB h_sc h_sW h_sV h_sT sc_cells sV a1 (fun v => v = sV a1.toNatClampNeg) ⟨fun h => absurd h hin.1, fun _ => ⟨fun h => absurd h hin.2, fun _ => ⟨hc40 hin, rfl⟩⟩⟩) (cwV 1 htb (gdV kw_676 kw_455 kw_456 kw_43 kw_457) rfl rfl rfl (by decide +kernel) ⟨Nat.le_of_ble_eq_true rfl, Nat.le_of_ble_eq_true rfl⟩) ⟨fun a U g mk q => by obtain ⟨q0, qP, qK⟩ := q; exact ⟨q0, qP, KK_c qK⟩, va_recv hK.1 hP (ci := 5) (q0 := 1) rfl rfl, fun U hU hW => ⟨rfl, by rw [hU]; exact hPd, KK_w hW hK⟩⟩ rfl rfl hl.1 rfl (lv_room (Nat.le_of_ble_eq_true rfl)) dPw_get_26 ⟨Nat.zero_le _, Nat.zero_le _⟩) (fun v hv => ?_)
    refine w_mono (fun t h => Or.inl ⟨hin, h⟩) ?_
    exact W.lret (v := v) hx hb hr (fun t ht hW => ⟨_, rfl, hv, ht⟩) (fun q h => absurd h List.not_mem_nil) dPw_get_29
  · have hin : ¬ inC a1 sc_cells := by rcases hw with h | h; (rw [h.2] at c8; exact absurd c8 (by decide)); exact h.1
    refine W.newc hx hb (own := RPw) (C := iaN) (index := 136) (n := 6) hown (htb _ kw_611) (htb _ kw_612) (htb _ kw_52) rfl dPw_get_11 (Nat.le_of_ble_eq_true rfl) (Nat.le_of_ble_eq_true rfl) (fun cX kX hfX hkX hk0 hk6 => ?_)
    refine W.eq (g2 := F0 m 14 ls [.ref s.heap.size]) rfl ?_
    refine lv_dup hx hb dPw_get_14 rfl ?_
    refine va_ldcS hx hb hown hR dPw_get_15 ?_
    intro T hT X
    obtain ⟨U, hsteps, hrun, hend, hW, hsame, ce, hce, Kc⟩ := X.ctorThrowS hx htr (own := "ParagraphWalk") (cls := iaN) (names := iaUp) (ic := 140) hown (by decide +kernel) (by decide +kernel) hat (fun y hy => by cases hy) hfX hkX (a := s.heap.size) (by rw [hT]; simp [freshCell]) (Nat.le_refl _) (msg := .ref qs) rfl
      (g := F0 m 17 ls [.ref qs, .ref s.heap.size, .ref s.heap.size]) rfl (by rw [hml]; exact hl.1) rfl rfl (rest := []) rfl (by rw [hb]; exact dPw_get_17) (by rw [hb]; exact dPw_get_20) (covers_of_empty hnoh _) (by decide) (Nat.le_of_ble_eq_true rfl) hlocks
    exact ⟨U, hsteps, Or.inr ⟨hin, _, ce, hrun, hend, hW, hsame, hce, Kc.cls, Kc.vm⟩⟩
