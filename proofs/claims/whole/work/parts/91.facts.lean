theorem in_tbl (ws : List Cond) (ps : List Nat) (hp : ws = ps.filterMap (fun i => lw_tbl[i]?)) : ∀ w ∈ ws, w ∈ lw_tbl := by
  intro w hw
  rw [hp] at hw
  obtain ⟨i, -, hi⟩ := List.mem_filterMap.mp hw
  exact List.mem_of_getElem? hi
theorem nwL_in : ∀ w ∈ nwL, w ∈ lw_tbl := in_tbl _ [74, 83, 98, 105, 115, 129, 137, 150, 156, 159, 160, 161, 163, 165, 167, 197, 199, 312, 322, 340] (by decide +kernel)
theorem tb_tbl : ∀ w ∈ TB, w ∈ lw_tbl := fun w h => (List.mem_filter.mp h).1
theorem arr_of {s : State} {args : Array Value} {ty : FieldType} (h : (Cond.arrayClass ty).before args s = true) : ∃ cA : ClassId, s.vm.findClass ("[" ++ ty.toString) = some cA ∧ ArrOfT s cA ty := by
  obtain ⟨cA, kA, comp, h1, h2, h3⟩ := Cond.arrayClass_spec h
  exact ⟨cA, h1, fun n z => ⟨fun k h => (by cases h), kA, h2, comp, h3⟩⟩
theorem kk_of {s : State} {args : Array Value} (htb : ∀ w ∈ TB, w.before args s = true) (hnw : ∀ w ∈ nwL, w.before args s = true) : ∃ (dC : Nat → ClassId) (dI : Nat → Nat → Nat) (cI cL cB : ClassId), KK dC dI cI cL cB s := by
  obtain ⟨cI, eI, aI⟩ := arr_of (htb _ kwa_I)
  obtain ⟨cL, eL, aL⟩ := arr_of (htb _ kwa_J)
  obtain ⟨cB, eB, aB⟩ := arr_of (htb _ kwa_B)
  obtain ⟨c0, s0, h0⟩ := u_known (C := RAn) (T := TAn) (N := 2) (n := 2) htb in_An (htb _ kw_114)
  obtain ⟨c1, s1, h1⟩ := u_known (C := RJo) (T := TJo) (N := 7) (n := 7) htb in_Jo (htb _ kw_149)
  obtain ⟨c2, s2, h2⟩ := u_known (C := RNw) (T := TNw) (N := 4) (n := 4) htb in_Nw (htb _ kw_242)
  obtain ⟨c3, s3, h3⟩ := u_known (C := RNd) (T := TNd) (N := 5) (n := 5) htb in_Nd (htb _ kw_73)
  obtain ⟨c4, s4, h4⟩ := u_known (C := RPg) (T := TPg) (N := 3) (n := 3) htb in_Pg (htb _ kw_97)
  obtain ⟨c5, s5, h5⟩ := u_known (C := RSc) (T := TSc) (N := 4) (n := 4) htb in_Sc (htb _ kw_128)
  obtain ⟨c6, s6, h6⟩ := u_known (C := RWk) (T := TWk) (N := 7) (n := 7) htb in_Wk (htb _ kw_184)
  obtain ⟨c7, s7, h7⟩ := u_known (C := RSp) (T := TSp) (N := 7) (n := 7) htb in_Sp (htb _ kw_186)
  obtain ⟨c8, s8, h8⟩ := u_known (C := RPw) (T := TPw) (N := 13) (n := 13) htb in_Pw (htb _ kw_55)
  obtain ⟨c9, s9, h9⟩ := u_known (C := RMo) (T := TMo) (N := 28) (n := 28) htb in_Mo (htb _ kw_678)
  refine ⟨fun k => if k = 0 then c0 else if k = 1 then c1 else if k = 2 then c2 else if k = 3 then c3 else if k = 4 then c4 else if k = 5 then c5 else if k = 6 then c6 else if k = 7 then c7 else if k = 8 then c8 else c9, fun k => if k = 0 then s0 else if k = 1 then s1 else if k = 2 then s2 else if k = 3 then s3 else if k = 4 then s4 else if k = 5 then s5 else if k = 6 then s6 else if k = 7 then s7 else if k = 8 then s8 else s9, cI, cL, cB, ⟨fun k q hq => ?_, fun k q hq => ?_⟩, fun w hw => va_Nw.of (nwL_tab w hw) (hnw w hw)⟩
  · match k, hq with
    | 0, hq => cases hq; exact h0
    | 1, hq => cases hq; exact h1
    | 2, hq => cases hq; exact h2
    | 3, hq => cases hq; exact h3
    | 4, hq => cases hq; exact h4
    | 5, hq => cases hq; exact h5
    | 6, hq => cases hq; exact h6
    | 7, hq => cases hq; exact h7
    | 8, hq => cases hq; exact h8
    | 9, hq => cases hq; exact h9
    | k + 10, hq => simp [vwCl] at hq
  · match k, hq with
    | 0, hq => cases hq; exact ⟨aI, eI⟩
    | 1, hq => cases hq; exact ⟨aL, eL⟩
    | 2, hq => cases hq; exact ⟨aB, eB⟩
    | k + 3, hq => simp at hq
set_option maxRecDepth 100000 in
theorem st_NEEDS_OF_A {s : State} {args : Array Value} {A : Nat → Prop} (hs : ∀ w ∈ flatC (Jvm.Cond.and given_1 narrow_1), w.before args s = true) (hl : (Cond.laysStatic "ParagraphWalk" "NEEDS_OF_A" "[I").before args s = true) (hini : (Cond.initialized "ParagraphWalk").before args s = true) (hA : ∀ a : Nat, a < s.heap.size → ¬ A a) : ∃ t : Nat, va_Z "ParagraphWalk" "NEEDS_OF_A" "[I" (.ref t) A s s.heap ∧ va_T .int t 26 (fun j => .int (tNA j)) A s s.heap := by
  have hel : ∀ j : Nat, j < 26 → (Term.elem (Term.static "ParagraphWalk" "NEEDS_OF_A" "[I") (.int (Int32.ofNat j))).eval args s none [] s = some (.int (tNA j)) := by
    intro j hj
    rcases (show j = 0 ∨ j = 1 ∨ j = 2 ∨ j = 3 ∨ j = 4 ∨ j = 5 ∨ j = 6 ∨ j = 7 ∨ j = 8 ∨ j = 9 ∨ j = 10 ∨ j = 11 ∨ j = 12 ∨ j = 13 ∨ j = 14 ∨ j = 15 ∨ j = 16 ∨ j = 17 ∨ j = 18 ∨ j = 19 ∨ j = 20 ∨ j = 21 ∨ j = 22 ∨ j = 23 ∨ j = 24 ∨ j = 25 by omega) with rfl | rfl | rfl | rfl | rfl | rfl | rfl | rfl | rfl | rfl | rfl | rfl | rfl | rfl | rfl | rfl | rfl | rfl | rfl | rfl | rfl | rfl | rfl | rfl | rfl | rfl
    · exact va_eqt (z := 0) (hs (Cond.eq (Term.elem (Term.static "ParagraphWalk" "NEEDS_OF_A" "[I") (.int 0)) (.int 0)) (by decide +kernel))
    · exact va_eqt (z := 1) (hs (Cond.eq (Term.elem (Term.static "ParagraphWalk" "NEEDS_OF_A" "[I") (.int 1)) (.int 1)) (by decide +kernel))
    · exact va_eqt (z := 2) (hs (Cond.eq (Term.elem (Term.static "ParagraphWalk" "NEEDS_OF_A" "[I") (.int 2)) (.int 2)) (by decide +kernel))
    · exact va_eqt (z := 2) (hs (Cond.eq (Term.elem (Term.static "ParagraphWalk" "NEEDS_OF_A" "[I") (.int 3)) (.int 2)) (by decide +kernel))
    · exact va_eqt (z := 2) (hs (Cond.eq (Term.elem (Term.static "ParagraphWalk" "NEEDS_OF_A" "[I") (.int 4)) (.int 2)) (by decide +kernel))
    · exact va_eqt (z := 2) (hs (Cond.eq (Term.elem (Term.static "ParagraphWalk" "NEEDS_OF_A" "[I") (.int 5)) (.int 2)) (by decide +kernel))
    · exact va_eqt (z := 2) (hs (Cond.eq (Term.elem (Term.static "ParagraphWalk" "NEEDS_OF_A" "[I") (.int 6)) (.int 2)) (by decide +kernel))
    · exact va_eqt (z := 2) (hs (Cond.eq (Term.elem (Term.static "ParagraphWalk" "NEEDS_OF_A" "[I") (.int 7)) (.int 2)) (by decide +kernel))
    · exact va_eqt (z := 2) (hs (Cond.eq (Term.elem (Term.static "ParagraphWalk" "NEEDS_OF_A" "[I") (.int 8)) (.int 2)) (by decide +kernel))
    · exact va_eqt (z := 1) (hs (Cond.eq (Term.elem (Term.static "ParagraphWalk" "NEEDS_OF_A" "[I") (.int 9)) (.int 1)) (by decide +kernel))
    · exact va_eqt (z := 3) (hs (Cond.eq (Term.elem (Term.static "ParagraphWalk" "NEEDS_OF_A" "[I") (.int 10)) (.int 3)) (by decide +kernel))
    · exact va_eqt (z := 2) (hs (Cond.eq (Term.elem (Term.static "ParagraphWalk" "NEEDS_OF_A" "[I") (.int 11)) (.int 2)) (by decide +kernel))
    · exact va_eqt (z := 2) (hs (Cond.eq (Term.elem (Term.static "ParagraphWalk" "NEEDS_OF_A" "[I") (.int 12)) (.int 2)) (by decide +kernel))
    · exact va_eqt (z := 3) (hs (Cond.eq (Term.elem (Term.static "ParagraphWalk" "NEEDS_OF_A" "[I") (.int 13)) (.int 3)) (by decide +kernel))
    · exact va_eqt (z := 2) (hs (Cond.eq (Term.elem (Term.static "ParagraphWalk" "NEEDS_OF_A" "[I") (.int 14)) (.int 2)) (by decide +kernel))
    · exact va_eqt (z := 7) (hs (Cond.eq (Term.elem (Term.static "ParagraphWalk" "NEEDS_OF_A" "[I") (.int 15)) (.int 7)) (by decide +kernel))
    · exact va_eqt (z := 8) (hs (Cond.eq (Term.elem (Term.static "ParagraphWalk" "NEEDS_OF_A" "[I") (.int 16)) (.int 8)) (by decide +kernel))
    · exact va_eqt (z := 0) (hs (Cond.eq (Term.elem (Term.static "ParagraphWalk" "NEEDS_OF_A" "[I") (.int 17)) (.int 0)) (by decide +kernel))
    · exact va_eqt (z := 0) (hs (Cond.eq (Term.elem (Term.static "ParagraphWalk" "NEEDS_OF_A" "[I") (.int 18)) (.int 0)) (by decide +kernel))
    · exact va_eqt (z := 0) (hs (Cond.eq (Term.elem (Term.static "ParagraphWalk" "NEEDS_OF_A" "[I") (.int 19)) (.int 0)) (by decide +kernel))
    · exact va_eqt (z := 0) (hs (Cond.eq (Term.elem (Term.static "ParagraphWalk" "NEEDS_OF_A" "[I") (.int 20)) (.int 0)) (by decide +kernel))
    · exact va_eqt (z := 0) (hs (Cond.eq (Term.elem (Term.static "ParagraphWalk" "NEEDS_OF_A" "[I") (.int 21)) (.int 0)) (by decide +kernel))
    · exact va_eqt (z := 3) (hs (Cond.eq (Term.elem (Term.static "ParagraphWalk" "NEEDS_OF_A" "[I") (.int 22)) (.int 3)) (by decide +kernel))
    · exact va_eqt (z := 2) (hs (Cond.eq (Term.elem (Term.static "ParagraphWalk" "NEEDS_OF_A" "[I") (.int 23)) (.int 2)) (by decide +kernel))
    · exact va_eqt (z := 2) (hs (Cond.eq (Term.elem (Term.static "ParagraphWalk" "NEEDS_OF_A" "[I") (.int 24)) (.int 2)) (by decide +kernel))
    · exact va_eqt (z := 9) (hs (Cond.eq (Term.elem (Term.static "ParagraphWalk" "NEEDS_OF_A" "[I") (.int 25)) (.int 9)) (by decide +kernel))
  obtain ⟨t, h1, h2⟩ := va_Tof (tm := (Term.static "ParagraphWalk" "NEEDS_OF_A" "[I")) (ty := .int) (N := 26) (f := fun j => .int (tNA j)) (A := A) (by decide) (hs _ (by decide +kernel)) (va_eqt (z := 26) (hs _ (by decide +kernel))) hel hA
  exact ⟨t, va_Zref hl hini h1 hA, h2⟩
set_option maxRecDepth 100000 in
theorem st_NEEDS_OF_B {s : State} {args : Array Value} {A : Nat → Prop} (hs : ∀ w ∈ flatC (Jvm.Cond.and given_1 narrow_1), w.before args s = true) (hl : (Cond.laysStatic "ParagraphWalk" "NEEDS_OF_B" "[I").before args s = true) (hini : (Cond.initialized "ParagraphWalk").before args s = true) (hA : ∀ a : Nat, a < s.heap.size → ¬ A a) : ∃ t : Nat, va_Z "ParagraphWalk" "NEEDS_OF_B" "[I" (.ref t) A s s.heap ∧ va_T .int t 26 (fun j => .int (tNB j)) A s s.heap := by
  have hel : ∀ j : Nat, j < 26 → (Term.elem (Term.static "ParagraphWalk" "NEEDS_OF_B" "[I") (.int (Int32.ofNat j))).eval args s none [] s = some (.int (tNB j)) := by
    intro j hj
    rcases (show j = 0 ∨ j = 1 ∨ j = 2 ∨ j = 3 ∨ j = 4 ∨ j = 5 ∨ j = 6 ∨ j = 7 ∨ j = 8 ∨ j = 9 ∨ j = 10 ∨ j = 11 ∨ j = 12 ∨ j = 13 ∨ j = 14 ∨ j = 15 ∨ j = 16 ∨ j = 17 ∨ j = 18 ∨ j = 19 ∨ j = 20 ∨ j = 21 ∨ j = 22 ∨ j = 23 ∨ j = 24 ∨ j = 25 by omega) with rfl | rfl | rfl | rfl | rfl | rfl | rfl | rfl | rfl | rfl | rfl | rfl | rfl | rfl | rfl | rfl | rfl | rfl | rfl | rfl | rfl | rfl | rfl | rfl | rfl | rfl
    · exact va_eqt (z := 0) (hs (Cond.eq (Term.elem (Term.static "ParagraphWalk" "NEEDS_OF_B" "[I") (.int 0)) (.int 0)) (by decide +kernel))
    · exact va_eqt (z := 0) (hs (Cond.eq (Term.elem (Term.static "ParagraphWalk" "NEEDS_OF_B" "[I") (.int 1)) (.int 0)) (by decide +kernel))
    · exact va_eqt (z := 2) (hs (Cond.eq (Term.elem (Term.static "ParagraphWalk" "NEEDS_OF_B" "[I") (.int 2)) (.int 2)) (by decide +kernel))
    · exact va_eqt (z := 2) (hs (Cond.eq (Term.elem (Term.static "ParagraphWalk" "NEEDS_OF_B" "[I") (.int 3)) (.int 2)) (by decide +kernel))
    · exact va_eqt (z := 2) (hs (Cond.eq (Term.elem (Term.static "ParagraphWalk" "NEEDS_OF_B" "[I") (.int 4)) (.int 2)) (by decide +kernel))
    · exact va_eqt (z := 2) (hs (Cond.eq (Term.elem (Term.static "ParagraphWalk" "NEEDS_OF_B" "[I") (.int 5)) (.int 2)) (by decide +kernel))
    · exact va_eqt (z := 2) (hs (Cond.eq (Term.elem (Term.static "ParagraphWalk" "NEEDS_OF_B" "[I") (.int 6)) (.int 2)) (by decide +kernel))
    · exact va_eqt (z := 2) (hs (Cond.eq (Term.elem (Term.static "ParagraphWalk" "NEEDS_OF_B" "[I") (.int 7)) (.int 2)) (by decide +kernel))
    · exact va_eqt (z := 2) (hs (Cond.eq (Term.elem (Term.static "ParagraphWalk" "NEEDS_OF_B" "[I") (.int 8)) (.int 2)) (by decide +kernel))
    · exact va_eqt (z := 2) (hs (Cond.eq (Term.elem (Term.static "ParagraphWalk" "NEEDS_OF_B" "[I") (.int 9)) (.int 2)) (by decide +kernel))
    · exact va_eqt (z := 3) (hs (Cond.eq (Term.elem (Term.static "ParagraphWalk" "NEEDS_OF_B" "[I") (.int 10)) (.int 3)) (by decide +kernel))
    · exact va_eqt (z := 3) (hs (Cond.eq (Term.elem (Term.static "ParagraphWalk" "NEEDS_OF_B" "[I") (.int 11)) (.int 3)) (by decide +kernel))
    · exact va_eqt (z := 4) (hs (Cond.eq (Term.elem (Term.static "ParagraphWalk" "NEEDS_OF_B" "[I") (.int 12)) (.int 4)) (by decide +kernel))
    · exact va_eqt (z := 3) (hs (Cond.eq (Term.elem (Term.static "ParagraphWalk" "NEEDS_OF_B" "[I") (.int 13)) (.int 3)) (by decide +kernel))
    · exact va_eqt (z := 5) (hs (Cond.eq (Term.elem (Term.static "ParagraphWalk" "NEEDS_OF_B" "[I") (.int 14)) (.int 5)) (by decide +kernel))
    · exact va_eqt (z := 6) (hs (Cond.eq (Term.elem (Term.static "ParagraphWalk" "NEEDS_OF_B" "[I") (.int 15)) (.int 6)) (by decide +kernel))
    · exact va_eqt (z := 3) (hs (Cond.eq (Term.elem (Term.static "ParagraphWalk" "NEEDS_OF_B" "[I") (.int 16)) (.int 3)) (by decide +kernel))
    · exact va_eqt (z := 0) (hs (Cond.eq (Term.elem (Term.static "ParagraphWalk" "NEEDS_OF_B" "[I") (.int 17)) (.int 0)) (by decide +kernel))
    · exact va_eqt (z := 2) (hs (Cond.eq (Term.elem (Term.static "ParagraphWalk" "NEEDS_OF_B" "[I") (.int 18)) (.int 2)) (by decide +kernel))
    · exact va_eqt (z := 0) (hs (Cond.eq (Term.elem (Term.static "ParagraphWalk" "NEEDS_OF_B" "[I") (.int 19)) (.int 0)) (by decide +kernel))
    · exact va_eqt (z := 0) (hs (Cond.eq (Term.elem (Term.static "ParagraphWalk" "NEEDS_OF_B" "[I") (.int 20)) (.int 0)) (by decide +kernel))
    · exact va_eqt (z := 0) (hs (Cond.eq (Term.elem (Term.static "ParagraphWalk" "NEEDS_OF_B" "[I") (.int 21)) (.int 0)) (by decide +kernel))
    · exact va_eqt (z := 0) (hs (Cond.eq (Term.elem (Term.static "ParagraphWalk" "NEEDS_OF_B" "[I") (.int 22)) (.int 0)) (by decide +kernel))
    · exact va_eqt (z := 0) (hs (Cond.eq (Term.elem (Term.static "ParagraphWalk" "NEEDS_OF_B" "[I") (.int 23)) (.int 0)) (by decide +kernel))
    · exact va_eqt (z := 0) (hs (Cond.eq (Term.elem (Term.static "ParagraphWalk" "NEEDS_OF_B" "[I") (.int 24)) (.int 0)) (by decide +kernel))
    · exact va_eqt (z := 9) (hs (Cond.eq (Term.elem (Term.static "ParagraphWalk" "NEEDS_OF_B" "[I") (.int 25)) (.int 9)) (by decide +kernel))
  obtain ⟨t, h1, h2⟩ := va_Tof (tm := (Term.static "ParagraphWalk" "NEEDS_OF_B" "[I")) (ty := .int) (N := 26) (f := fun j => .int (tNB j)) (A := A) (by decide) (hs _ (by decide +kernel)) (va_eqt (z := 26) (hs _ (by decide +kernel))) hel hA
  exact ⟨t, va_Zref hl hini h1 hA, h2⟩
set_option maxRecDepth 100000 in
theorem st_TENS {s : State} {args : Array Value} {A : Nat → Prop} (hs : ∀ w ∈ flatC (Jvm.Cond.and given_1 narrow_1), w.before args s = true) (hl : (Cond.laysStatic "ParagraphWalk" "TENS" "[J").before args s = true) (hini : (Cond.initialized "ParagraphWalk").before args s = true) (hA : ∀ a : Nat, a < s.heap.size → ¬ A a) : ∃ t : Nat, va_Z "ParagraphWalk" "TENS" "[J" (.ref t) A s s.heap ∧ va_T .long t 19 (fun j => .long (tTN j)) A s s.heap := by
  have hel : ∀ j : Nat, j < 19 → (Term.elem (Term.static "ParagraphWalk" "TENS" "[J") (.int (Int32.ofNat j))).eval args s none [] s = some (.long (tTN j)) := by
    intro j hj
    rcases (show j = 0 ∨ j = 1 ∨ j = 2 ∨ j = 3 ∨ j = 4 ∨ j = 5 ∨ j = 6 ∨ j = 7 ∨ j = 8 ∨ j = 9 ∨ j = 10 ∨ j = 11 ∨ j = 12 ∨ j = 13 ∨ j = 14 ∨ j = 15 ∨ j = 16 ∨ j = 17 ∨ j = 18 by omega) with rfl | rfl | rfl | rfl | rfl | rfl | rfl | rfl | rfl | rfl | rfl | rfl | rfl | rfl | rfl | rfl | rfl | rfl | rfl
    · exact va_eqtl (z := 1) (hs (Cond.eq (Term.elem (Term.static "ParagraphWalk" "TENS" "[J") (.int 0)) (.long 1)) (by decide +kernel))
    · exact va_eqtl (z := 10) (hs (Cond.eq (Term.elem (Term.static "ParagraphWalk" "TENS" "[J") (.int 1)) (.long 10)) (by decide +kernel))
    · exact va_eqtl (z := 100) (hs (Cond.eq (Term.elem (Term.static "ParagraphWalk" "TENS" "[J") (.int 2)) (.long 100)) (by decide +kernel))
    · exact va_eqtl (z := 1000) (hs (Cond.eq (Term.elem (Term.static "ParagraphWalk" "TENS" "[J") (.int 3)) (.long 1000)) (by decide +kernel))
    · exact va_eqtl (z := 10000) (hs (Cond.eq (Term.elem (Term.static "ParagraphWalk" "TENS" "[J") (.int 4)) (.long 10000)) (by decide +kernel))
    · exact va_eqtl (z := 100000) (hs (Cond.eq (Term.elem (Term.static "ParagraphWalk" "TENS" "[J") (.int 5)) (.long 100000)) (by decide +kernel))
    · exact va_eqtl (z := 1000000) (hs (Cond.eq (Term.elem (Term.static "ParagraphWalk" "TENS" "[J") (.int 6)) (.long 1000000)) (by decide +kernel))
    · exact va_eqtl (z := 10000000) (hs (Cond.eq (Term.elem (Term.static "ParagraphWalk" "TENS" "[J") (.int 7)) (.long 10000000)) (by decide +kernel))
    · exact va_eqtl (z := 100000000) (hs (Cond.eq (Term.elem (Term.static "ParagraphWalk" "TENS" "[J") (.int 8)) (.long 100000000)) (by decide +kernel))
    · exact va_eqtl (z := 1000000000) (hs (Cond.eq (Term.elem (Term.static "ParagraphWalk" "TENS" "[J") (.int 9)) (.long 1000000000)) (by decide +kernel))
    · exact va_eqtl (z := 10000000000) (hs (Cond.eq (Term.elem (Term.static "ParagraphWalk" "TENS" "[J") (.int 10)) (.long 10000000000)) (by decide +kernel))
    · exact va_eqtl (z := 100000000000) (hs (Cond.eq (Term.elem (Term.static "ParagraphWalk" "TENS" "[J") (.int 11)) (.long 100000000000)) (by decide +kernel))
    · exact va_eqtl (z := 1000000000000) (hs (Cond.eq (Term.elem (Term.static "ParagraphWalk" "TENS" "[J") (.int 12)) (.long 1000000000000)) (by decide +kernel))
    · exact va_eqtl (z := 10000000000000) (hs (Cond.eq (Term.elem (Term.static "ParagraphWalk" "TENS" "[J") (.int 13)) (.long 10000000000000)) (by decide +kernel))
    · exact va_eqtl (z := 100000000000000) (hs (Cond.eq (Term.elem (Term.static "ParagraphWalk" "TENS" "[J") (.int 14)) (.long 100000000000000)) (by decide +kernel))
    · exact va_eqtl (z := 1000000000000000) (hs (Cond.eq (Term.elem (Term.static "ParagraphWalk" "TENS" "[J") (.int 15)) (.long 1000000000000000)) (by decide +kernel))
    · exact va_eqtl (z := 10000000000000000) (hs (Cond.eq (Term.elem (Term.static "ParagraphWalk" "TENS" "[J") (.int 16)) (.long 10000000000000000)) (by decide +kernel))
    · exact va_eqtl (z := 100000000000000000) (hs (Cond.eq (Term.elem (Term.static "ParagraphWalk" "TENS" "[J") (.int 17)) (.long 100000000000000000)) (by decide +kernel))
    · exact va_eqtl (z := 1000000000000000000) (hs (Cond.eq (Term.elem (Term.static "ParagraphWalk" "TENS" "[J") (.int 18)) (.long 1000000000000000000)) (by decide +kernel))
  obtain ⟨t, h1, h2⟩ := va_Tof (tm := (Term.static "ParagraphWalk" "TENS" "[J")) (ty := .long) (N := 19) (f := fun j => .long (tTN j)) (A := A) (by decide) (hs _ (by decide +kernel)) (va_eqt (z := 19) (hs _ (by decide +kernel))) hel hA
  exact ⟨t, va_Zref hl hini h1 hA, h2⟩
theorem xf_of {s : State} {args : Array Value} (hts : ∀ w ∈ lw_tbl, w.before args s = true) (hs : ∀ w ∈ flatC (Jvm.Cond.and given_1 narrow_1), w.before args s = true) : XF args s := by
  have i1 : ∀ w ∈ thX, w ∈ lw_tbl := in_tbl _ [615, 617, 619, 613] (by decide +kernel)
  have i2 : ∀ w ∈ [stU, stS], w ∈ lw_tbl := in_tbl _ [638, 640] (by decide +kernel)
  have i3 : ∀ w ∈ thR, w ∈ flatC (Jvm.Cond.and given_1 narrow_1) := by decide +kernel
  have i4 : ∀ w ∈ thX, w.onTables = true := by decide +kernel
  exact ⟨fun w hw => va_Nw.of (i4 w hw) (hts w (i1 w hw)), fun w hw => hts w (i2 w hw), fun w hw => hs w (i3 w hw)⟩
theorem vr_of {s : State} {args : Array Value} {dC : Nat → ClassId} {dI : Nat → Nat → Nat} {cI cL cB : ClassId} (hK : KK dC dI cI cL cB s) (h : (Cond.stringRef "ParagraphWalk" 138 "no such cell").before args s = true) : ∃ qs : Nat, vk_R "ParagraphWalk" 138 "no such cell" qs s := by
  have hc : s.vm.findClass RPw = some (dC 8) := (hK.1.1 8 _ rfl).2.1
  obtain ⟨-, -, -, sa, -, -, -, -, -, hev⟩ := Cond.stringRef_spec hc h
  exact ⟨sa, vk_R.of h hev⟩
theorem sr_in : Cond.stringRef "ParagraphWalk" 138 "no such cell" ∈ lw_tbl := List.mem_of_getElem? (i := 650) (by decide +kernel)
theorem sl_A : Cond.laysStatic "ParagraphWalk" "NEEDS_OF_A" "[I" ∈ lw_tbl := List.mem_of_getElem? (i := 323) (by decide +kernel)
theorem sl_B : Cond.laysStatic "ParagraphWalk" "NEEDS_OF_B" "[I" ∈ lw_tbl := List.mem_of_getElem? (i := 341) (by decide +kernel)
theorem sl_T : Cond.laysStatic "ParagraphWalk" "TENS" "[J" ∈ lw_tbl := List.mem_of_getElem? (i := 313) (by decide +kernel)
