theorem kwx_601 : Cond.codeWith ⟨"ParagraphWalkLaw", "get", "(LParagraphWalk;I[J)I"⟩ method_3_code 4 (some .int) [(0, 8, 11, 13)] ∈ TB := tb_of (i := 601) (by decide +kernel) rfl
def LQ (below : List Frame) (args : Array Value) (s : State) (dC : Nat → ClassId) (dI : Nat → Nat → Nat) (cL : ClassId) (h_out : Nat) (ou : Nat → Int64) (a1 sc_cells : Int32) (sV : Nat → Int64) : State → Prop := fun t =>
  (inC a1 sc_cells ∧ MQ below (fun _ st oc t => oc = .returned (some (.int 0)) ∧ va_P (dC, dI) vwCl [(h_out, .inl (cL, 1, .inr (.inl (vp_updL ou 0 (sV a1.toNatClampNeg)))))] t.heap ∧ va_F (fun q => q = h_out) st t) args s 0 0 (fun q => q = h_out) t) ∨
  (¬ inC a1 sc_cells ∧ MQ below (fun _ st oc t => oc = .returned (some (.int 1)) ∧ va_F (fun _ => False) st t) args s 1 6 (fun _ => False) t)
theorem va_D1 {a : Nat} {e : va_E} : va_D (fun q => q = a) [(a, e)] := by
  refine ⟨fun i j x y hi hj _ => ?_, fun k q hk => ?_⟩
  · have h1 := (List.getElem?_eq_some_iff.mp hi).1
    have h2 := (List.getElem?_eq_some_iff.mp hj).1
    simp at h1 h2
    omega
  · have h1 := (List.getElem?_eq_some_iff.mp hk).1
    simp at h1
    subst h1
    simp at hk
    rw [← hk]
set_option maxHeartbeats 4000000 in
set_option maxRecDepth 100000 in
theorem lg_body {p : Program} {l : Launch} {e : Env} {s : State} {m : MethodId} {below : List Frame} {meth : Method} {c : Code} {dC : Nat → ClassId} {dI : Nat → Nat → Nat} {cI cL cB : ClassId} {h_out h_pw h_sc h_sW h_sV h_sT qs : Nat} {fs : List Value} {sc_cells a1 : Int32} {sV ou : Nat → Int64}
    (hx : p.tables.exec = Jvm.exec) (hb : c.code = cLw_get) (hml : c.maxLocals = 4) (hr : meth.sig.returnType = some .int) (hlocks : meth.locks = false) (htab : c.exceptionTable.toList.map (fun h => (h.startPc, h.endPc, h.handlerPc, h.catchType)) = [(0, 8, 11, 13)]) (htr : e.platform.stackTraces = false)
    (hown : s.vm.findClass RLw = some m.cls) (htb : ∀ w ∈ TB, w.before ([.ref h_pw, .int a1, .ref h_out] : List Value).toArray s = true) (hat : ∀ (a' : Array Value) (U : State), s.WarmedH U.vm → U.heap = s.heap → ∀ w ∈ thA, w.before a' U = true) (hR : vk_R "ParagraphWalk" 138 "no such cell" qs s) (hK : KK dC dI cI cL cB s)
    (hfs : fs[4]? = some (.ref h_sc)) (hc40 : inC a1 sc_cells → vp_in a1 40) (hP : va_P (dC, dI) vwCl [(h_out, .inl (cL, 1, .inr (.inl ou))), (h_pw, .inr (8, fs)), (h_sc, .inr (5, [.ref h_sW, .ref h_sV, .ref h_sT, .int sc_cells])), (h_sV, .inl (cL, 40, .inr (.inl sV)))] s.heap) :
    W p l e R_lg s m ([.ref h_pw, .int a1, .ref h_out] : List Value).toArray below meth c s.heap [] 0 0 (LQ below ([.ref h_pw, .int a1, .ref h_out] : List Value).toArray s dC dI cL h_out ou a1 sc_cells sV) (entryFrame m ([.ref h_pw, .int a1, .ref h_out] : List Value).toArray 4) := by
  have hl := lv_entry ([.ref h_pw, .int a1, .ref h_out]) (n := 4) (Nat.le_of_ble_eq_true rfl)
  rw [lg_entry_eq]
  generalize (lg_sl ([.ref h_pw, .int a1, .ref h_out]) ++ List.replicate (4 - (lg_sl ([.ref h_pw, .int a1, .ref h_out])).length) Slot.unset).toArray = ls at hl ⊢
  have hl : lv_has ls 4 [(0, .ref h_pw), (1, .int a1), (2, .ref h_out)] := hl
  refine lv_aload_n hx hb dLw_get_0 rfl (lv_at hl 2 rfl) ?_
  refine lv_iconst (v := 0) hx hb dLw_get_1 (by decide) ?_
  refine lv_aload_n hx hb dLw_get_2 rfl (lv_at hl 0 rfl) ?_
  refine lv_iload_n hx hb dLw_get_3 rfl (lv_at hl 1 rfl) ?_
  intro T hT X
  obtain ⟨cellB, hcB, hoB, hclB⟩ := va_recv hK.1 hP (ci := 8) (q0 := 1) rfl rfl
  obtain ⟨vm₁, mk, mG, cG, E, hW1, X1, hn1, hb1, hml1, hr1, hlk1, hne, hE, Y, st1⟩ := st_inV X hx (own := RLw) (C := RPw) (index := 7) (y := yPw_get) (bytes := cPw_get) (maxL := 2) (ret := some .long) hown (htb _ kw_603) (htb _ kw_604) (htb _ kw_605) (htb _ kw_606) (by decide +kernel) (by decide +kernel) (b := h_pw) (cellB := cellB) (by rw [hT]; exact hcB) hoB hclB
    (g := F0 m 4 ls [.int a1, .ref h_pw, .int 0, .ref h_out]) rfl (by rw [hml]; exact hl.1) (argsL := [.int a1]) (rest := [.int 0, .ref h_out]) (fun sig h => by
      have hd : (parseMethodDescriptor yPw_get.desc).map (fun d => d.parameters.length) = some 1 := by decide +kernel
      rw [h] at hd
      exact (Option.some.inj hd).symm) rfl (by rw [hb]; exact dLw_get_4) R_get (Nat.le_of_ble_eq_true rfl) (Nat.le_of_ble_eq_true rfl) (Nat.le_of_ble_eq_true rfl) (Nat.le_of_ble_eq_true rfl)
  have hP2 := hP.sub (ws' := [(h_pw, .inr (8, fs)), (h_sc, .inr (5, [.ref h_sW, .ref h_sV, .ref h_sT, .int sc_cells])), (h_sV, .inl (cL, 40, .inr (.inl sV)))]) [1, 2, 3] rfl
  obtain ⟨t, hst, hq⟩ := get_body (s := (T.setVm vm₁).calling { F0 m 4 ls [.int a1, .ref h_pw, .int 0, .ref h_out] with stack := [.int 0, .ref h_out] } mk ([.ref h_pw, .int a1] : List Value).toArray) (h_pw := h_pw) (a1 := a1) (sV := sV) (fs := fs) (sc_cells := sc_cells) (h_sc := h_sc) (h_sW := h_sW) (h_sV := h_sV) (h_sT := h_sT) (qs := qs) (dC := dC) (dI := dI) (cI := cI) (cL := cL) (cB := cB) hx hb1 hml1 hr1 hlk1 hne htr (findClass_of_methodNamed (X1.named hn1))
    (fun w hw => pay_in htb (tb_good (fun _ h => h)) w hw _ _ hW1) (hat _ _ hW1 hT) (vk_R.warm hW1 hR) (KK_w hW1 hK) hfs hc40 (by show va_P _ _ _ T.heap; rw [hT]; exact hP2) E (by rw [hE]; rfl) Y
  rcases hq with ⟨hin, o, hrun, hend, ⟨v, ho, hv, hh⟩, L, ⟨_, hWt, hsame⟩, hL⟩ | ⟨hin, a, ce, hrun, hend, hWt, hsame, hce, hcls, hvm⟩
  · subst ho
    subst hv
    obtain ⟨T', X', hW', hB, ht⟩ := X1.outOf (g := { F0 m 4 ls [.int a1, .ref h_pw, .int 0, .ref h_out] with stack := [.int 0, .ref h_out] }) rfl (len := 3) (by rw [hb]; exact dLw_get_4) hend hWt hsame
    have hT' : T'.heap = s.heap := by
      have h1 : t.heap = T'.heap := by rw [ht]; rfl
      rw [← h1, hh]
      exact hT
    have X'' : Stand p l e R_lg s m ([.ref h_pw, .int a1, .ref h_out] : List Value).toArray below meth c T' [] 0 0 := Stand.forget (locs := []) X' (fun q h => (hL q h).elim)
    have k : W p l e R_lg s m ([.ref h_pw, .int a1, .ref h_out] : List Value).toArray below meth c s.heap [] 0 0 (LQ below ([.ref h_pw, .int a1, .ref h_out] : List Value).toArray s dC dI cL h_out ou a1 sc_cells sV) (F0 m 7 ls [.long (sV a1.toNatClampNeg), .int 0, .ref h_out]) := by
      have hS : va_S (fun q => q = h_out) s.heap s.heap [] := va_S.rf
      refine va_last hx hb hK.1 (hP.sub (ws' := [(h_out, .inl (cL, 1, .inr (.inl ou)))]) [0] rfl) va_D1 hS 0 1 rfl rfl (i := 0) (show vp_in 0 1 by unfold vp_in; decide) dLw_get_7 (fun H locs hP hD hS => ?_)
      refine lv_goto (tgt := 14) hx hb dLw_get_8 (by decide) ?_
      refine lv_iconst (v := 0) hx hb dLw_get_14 (by decide) ?_
      refine w_mono (fun t h => Or.inl ⟨hin, h⟩) ?_
      exact W.iret (v := 0) hx hb hr (fun t ht hW => ⟨rfl, by rw [ht]; exact hP, hS.F ht⟩) hS.2.2 dLw_get_15
    obtain ⟨t2, a2, b2⟩ := k T' hT' X''
    exact ⟨t2, st1 _ ((st_weaken (mid := [.java _]) hst).trans (by rw [ht]; exact a2)), b2⟩
  · obtain ⟨T', X', hW', hB, ht⟩ := X1.outOfThrown (g := { F0 m 4 ls [.int a1, .ref h_pw, .int 0, .ref h_out] with stack := [.int 0, .ref h_out] }) rfl hend hWt hsame
    have h1 : t.heap = T'.heap := by rw [ht]; exact Stand.throwing_heap _ _ _
    obtain ⟨vm', X'', st2⟩ := st_catch X' htab (by decide) hown (htb _ kw_602) (a := a) (cell := ce) (by rw [← h1]; exact hce) (fun k h => by rw [hvm] at h; cases h) (by rw [← hW1.alike.findClass]; exact hcls) (g := { F0 m 4 ls [.int a1, .ref h_pw, .int 0, .ref h_out] with stack := [.int 0, .ref h_out] }) rfl ⟨Nat.zero_le _, by show 4 < 8; decide⟩
    have hF : va_F (fun _ => False) s (T'.setVm vm') := by
      have h2 : T'.heap.size = t.heap.size := by rw [h1]
      refine ⟨?_, fun q hq _ => ?_⟩
      · show s.heap.size ≤ T'.heap.size
        rw [h2, ← hT]
        exact hsame.2.1
      · show T'.heap[q]? = s.heap[q]?
        rw [← h1, ← hT]
        exact sb_kept hsame (by rw [← hT] at hq; exact hq)
    have k : W p l e R_lg s m ([.ref h_pw, .int a1, .ref h_out] : List Value).toArray below meth c T'.heap [] 1 6 (LQ below ([.ref h_pw, .int a1, .ref h_out] : List Value).toArray s dC dI cL h_out ou a1 sc_cells sV) (F0 m 11 ls [.ref a]) := by
      refine lv_astore_n (lv' := [(3, .ref a), (0, .ref h_pw), (1, .int a1), (2, .ref h_out)]) hx hb dLw_get_11 rfl hl (by decide) rfl (fun ls hl => ?_)
      refine lv_iconst (v := 1) hx hb dLw_get_12 (by decide) ?_
      refine w_mono (fun t h => Or.inr ⟨hin, h⟩) ?_
      exact W.iret (v := 1) hx hb hr (fun t ht hW => ⟨rfl, ⟨by rw [ht]; exact hF.1, fun q h1 h2 => by rw [ht]; exact hF.2 q h1 h2⟩⟩) (fun q h => absurd h List.not_mem_nil) dLw_get_13
    obtain ⟨t2, a2, b2⟩ := k (T'.setVm vm') rfl X''
    exact ⟨t2, st1 _ ((st_weaken (mid := [.java _]) hst).trans (by rw [ht]; exact st2 _ a2)), b2⟩
set_option maxHeartbeats 4000000 in
set_option maxRecDepth 100000 in
theorem row_get {p : Program} {l : Launch} {e : Env} {s : State} {m : MethodId} {args : Array Value} {below : List Frame} {meth : Method} {c : Code} {H : Heap} {locs : List Loc} {cells slots : Nat} {Q : State → Prop} {ls : Array Slot} {dC : Nat → ClassId} {dI : Nat → Nat → Nat} {cI cL cB : ClassId} {h_out h_pw h_sc h_sW h_sV h_sT qs : Nat} {fs : List Value} {sc_cells a1 : Int32} {sV ou : Nat → Int64}
    (hx : p.tables.exec = Jvm.exec) (hb : c.code = cLw_law) (hml : c.maxLocals = 8) (hls : ls.size = 8) (htr : e.platform.stackTraces = false)
    (hown : s.vm.findClass RLw = some m.cls) (htb : ∀ w ∈ TB, w.before args s = true) (hat : ∀ (a' : Array Value) (U : State), s.WarmedH U.vm → U.heap = H → ∀ w ∈ thA, w.before a' U = true) (hR : vk_R "ParagraphWalk" 138 "no such cell" qs s) (hK : KK dC dI cI cL cB s)
    (hfs : fs[4]? = some (.ref h_sc)) (hc40 : inC a1 sc_cells → vp_in a1 40) (hP : va_P (dC, dI) vwCl [(h_out, .inl (cL, 1, .inr (.inl ou))), (h_pw, .inr (8, fs)), (h_sc, .inr (5, [.ref h_sW, .ref h_sV, .ref h_sT, .int sc_cells])), (h_sV, .inl (cL, 40, .inr (.inl sV)))] H) (hkc : cells + 1 ≤ 601024) (hks : slots + 6 ≤ 7293000)
    (k0 : inC a1 sc_cells → ∀ (H1 : Heap) (L : List Loc), va_P (dC, dI) vwCl [(h_out, .inl (cL, 1, .inr (.inl (vp_updL ou 0 (sV a1.toNatClampNeg)))))] H1 → H.size ≤ H1.size → (∀ q, q < H.size → q ≠ h_out → H1[q]? = H[q]?) → (∀ q ∈ L, q.base = h_out) → W p l e room_1 s m args below meth c H1 (locs ++ L) cells slots Q (F0 m 344 ls [.int 0]))
    (k1 : ¬ inC a1 sc_cells → ∀ (H1 : Heap), H.size ≤ H1.size → (∀ q, q < H.size → H1[q]? = H[q]?) → W p l e room_1 s m args below meth c H1 locs (cells + 1) (slots + 6) Q (F0 m 344 ls [.int 1])) :
    W p l e room_1 s m args below meth c H locs cells slots Q (F0 m 341 ls [.ref h_out, .int a1, .ref h_pw]) := by
  intro T hT X
  obtain ⟨vm₁, mk, mL, cG, E, hW1, X1, hn1, hb1, hml1, hr1, hlk1, htab1, hE, Y, st1⟩ := st_inSW X hx (own := RLw) (index := 52) (y := yLw_get) (bytes := cLw_get) (maxL := 4) (ret := some .int) (hs := [(0, 8, 11, 13)]) hown (htb _ kw_599) (htb _ kw_600) (htb _ kw_37) (htb _ kwx_601) (by decide +kernel) (by decide +kernel)
    (g := F0 m 341 ls [.ref h_out, .int a1, .ref h_pw]) rfl (hls.trans hml.symm) (argsL := [.ref h_pw, .int a1, .ref h_out]) (rest := []) (fun sig h => by
      have hd : (parseMethodDescriptor yLw_get.desc).map (fun d => d.parameters.length) = some 3 := by decide +kernel
      rw [h] at hd
      exact (Option.some.inj hd).symm) rfl (by rw [hb]; exact dLw_law_341) R_lg (Nat.le_of_ble_eq_true rfl) (Nat.le_of_ble_eq_true rfl) hkc hks
  obtain ⟨t, hst, hq⟩ := lg_body (s := (T.setVm vm₁).calling { F0 m 341 ls [.ref h_out, .int a1, .ref h_pw] with stack := [] } mk ([.ref h_pw, .int a1, .ref h_out] : List Value).toArray) (h_out := h_out) (ou := ou) (h_pw := h_pw) (a1 := a1) (sV := sV) (fs := fs) (sc_cells := sc_cells) (h_sc := h_sc) (h_sW := h_sW) (h_sV := h_sV) (h_sT := h_sT) (qs := qs) (dC := dC) (dI := dI) (cI := cI) (cL := cL) (cB := cB) hx hb1 hml1 hr1 hlk1 htab1 htr (findClass_of_methodNamed (X1.named hn1))
    (fun w hw => pay_in htb (tb_good (fun _ h => h)) w hw _ _ hW1) (fun a' U hU hH => hat a' U (State.WarmedH.trans hW1 hU) (hH.trans hT)) (vk_R.warm hW1 hR) (KK_w hW1 hK) hfs hc40 (by show va_P _ _ _ T.heap; rw [hT]; exact hP) E (by rw [hE]; rfl) Y
  rcases hq with ⟨hin, o, hrun, hend, ⟨ho, hPo, hF⟩, L, ⟨_, hWt, hsame⟩, hL⟩ | ⟨hin, o, hrun, hend, ⟨ho, hF⟩, L, ⟨_, hWt, hsame⟩, hL⟩
  · subst ho
    obtain ⟨T', X', hW', hB, ht⟩ := X1.outOf (g := { F0 m 341 ls [.ref h_out, .int a1, .ref h_pw] with stack := [] }) rfl (len := 3) (by rw [hb]; exact dLw_law_341) hend hWt hsame
    have h1 : t.heap = T'.heap := by rw [ht]; rfl
    obtain ⟨t2, a2, b2⟩ := k0 hin T'.heap L (by rw [← h1]; exact hPo) (by rw [← h1, ← hT]; exact hF.1) (fun q h2 h3 => by rw [← h1, ← hT]; exact hF.2 q (by rw [← hT] at h2; exact h2) h3) hL T' rfl X'
    exact ⟨t2, st1 _ ((st_weaken (mid := [.java _]) hst).trans (by rw [ht]; exact a2)), b2⟩
  · subst ho
    obtain ⟨T', X', hW', hB, ht⟩ := X1.outOf (g := { F0 m 341 ls [.ref h_out, .int a1, .ref h_pw] with stack := [] }) rfl (len := 3) (by rw [hb]; exact dLw_law_341) hend hWt hsame
    have h1 : t.heap = T'.heap := by rw [ht]; rfl
    have X'' : Stand p l e room_1 s m args below meth c T' locs (cells + 1) (slots + 6) := Stand.forget (locs := locs) X' (fun q h => (hL q h).elim)
    obtain ⟨t2, a2, b2⟩ := k1 hin T'.heap (by rw [← h1, ← hT]; exact hF.1) (fun q h2 => by rw [← h1, ← hT]; exact hF.2 q (by rw [← hT] at h2; exact h2) id) T' rfl X''
    exact ⟨t2, st1 _ ((st_weaken (mid := [.java _]) hst).trans (by rw [ht]; exact a2)), b2⟩
