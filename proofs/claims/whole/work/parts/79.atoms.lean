def thI : List Nat := [49, 633, 642, 644, 647, 649, 634, 635, 60, 61, 636, 641, 645, 665, 623, 666, 625, 667, 627, 637, 639, 629, 661, 662, 664, 652, 653, 654, 655, 656, 657, 658, 659, 660, 651, 612, 620, 621, 622, 624, 626, 628, 632, 631, 630]
def thTB : List Cond := thI.filterMap (fun i => lw_tbl[i]?)
theorem thTB_in : ∀ w ∈ thTB, w ∈ TB := tb_all _ thI rfl (by decide +kernel)
def stU : Cond := .laysStatic "java/lang/Throwable" "UNASSIGNED_STACK" "[Ljava/lang/StackTraceElement;"
def stS : Cond := .laysStatic "java/lang/Throwable" "SUPPRESSED_SENTINEL" "Ljava/util/List;"
def thX : List Cond := [.declares ⟨"java/lang/RuntimeException", "<init>", "(Ljava/lang/String;)V"⟩, .declares ⟨"java/lang/Exception", "<init>", "(Ljava/lang/String;)V"⟩, .declares ⟨"java/lang/Throwable", "<init>", "(Ljava/lang/String;)V"⟩, .castable iaN iaN]
def thR : List Cond := [.isRef (.static "java/lang/Throwable" "UNASSIGNED_STACK" "[Ljava/lang/StackTraceElement;"), .isRef (.static "java/lang/Throwable" "SUPPRESSED_SENTINEL" "Ljava/util/List;")]
set_option maxRecDepth 100000 in
theorem thA_in : ∀ w ∈ thA, w ∈ thTB ∨ w ∈ thX ∨ w ∈ [stU, stS] ∨ w ∈ thR := by decide +kernel
def XF (args : Array Value) (s : State) : Prop := (∀ w ∈ thX, va_Nw w s) ∧ (∀ w ∈ [stU, stS], w.before args s = true) ∧ ∀ w ∈ thR, w.before args s = true
theorem ls_heap {C n d : String} {s U : State} {A A' : Array Value} (hv : s.vm = U.vm) (hH : ∀ q : Nat, q < s.heap.size → U.heap[q]? = s.heap[q]?) (h : (Cond.laysStatic C n d).before A s = true) : (Cond.laysStatic C n d).before A' U = true := by
  obtain ⟨c, k, i, f, a, cell, h1, h2, h3, h4, h5, h6, h7, h8, h9⟩ := Cond.laysStatic_spec h
  have h5' : U.heap[a]? = some cell := by rw [hH a (Array.getElem?_eq_some_iff.mp h5).1]; exact h5
  have h2' : U.fieldFound? C n d = some (c, k, i, f) := by
    have : U.fieldFound? C n d = s.fieldFound? C n d := by unfold State.fieldFound?; rw [hv]
    rw [this]; exact h2
  rw [hv] at h1
  simp [Cond.before, Cond.holds, Cond.value, h1, h2', h3, h4, h5', h6, h7, h8, h9]
theorem isRef_of {C n d : String} {A : Nat → Prop} {U : State} {a' : Array Value} (h : va_Zq C n d A U U.heap) : (Cond.isRef (.static C n d)).before a' U = true := by
  rcases h with ⟨cf, kf, fi, f, a, cell, h1, h2, h3, h4, h5, h6, h7, -⟩ | ⟨t, cf, kf, fi, f, a, cell, h1, h2, h3, h4, h5, h6, h7, -⟩
  · simp [Cond.before, Cond.holds, Cond.value, Term.eval, State.fieldNamed?, h1, h2, h4, h5, h6, h7]
  · simp [Cond.before, Cond.holds, Cond.value, Term.eval, State.fieldNamed?, h1, h2, h4, h5, h6, h7]
theorem isRef_at {C n d : String} {s U : State} {args a' : Array Value} (hW : s.WarmedH U.vm) (hH : ∀ q : Nat, q < s.heap.size → U.heap[q]? = s.heap[q]?) (hl : (Cond.laysStatic C n d).before args s = true) (hini : (Cond.initialized C).before args s = true) (h : (Cond.isRef (.static C n d)).before args s = true) : (Cond.isRef (.static C n d)).before a' U = true := by
  have e1 : (Cond.laysStatic C n d).before args (s.setVm U.vm) = true := Cond.holds_shifted (State.Shifted.of_warmed hW) (.laysStatic C n d) [] rfl hl
  have e2 : (Cond.initialized C).before args (s.setVm U.vm) = true := Cond.holds_shifted (State.Shifted.of_warmed hW) (.initialized C) [] rfl hini
  have e3 : (Cond.isRef (.static C n d)).before args (s.setVm U.vm) = true := Cond.holds_shifted (State.Shifted.of_warmed hW) (.isRef (.static C n d)) [] rfl h
  have hZ : va_Zq C n d (fun q => s.heap.size ≤ q) (s.setVm U.vm) s.heap := va_Zqof (s := s.setVm U.vm) (A := fun q => s.heap.size ≤ q) e1 e2 e3 (fun a ha => Nat.not_le.mpr ha)
  exact isRef_of (va_Zq.moved (u := s.setVm U.vm) (U := U) (Vm.Alike.refl U.vm) (hZ.kept (fun a h1 _ => hH a h1)))
theorem thA_at {s U : State} {args a' : Array Value} (hW : s.WarmedH U.vm) (htb : ∀ w ∈ TB, w.before args s = true) (hX : XF args s) (hH : ∀ q : Nat, q < s.heap.size → U.heap[q]? = s.heap[q]?) : ∀ w ∈ thA, w.before a' U = true := by
  intro w hw
  have hini := htb _ kw_49
  rcases thA_in w hw with h | h | h | h
  · exact pay_in htb (tb_good (fun _ h => h)) w (thTB_in w h) _ _ hW
  · have h1 := hX.1 w h
    simp only [thX, List.mem_cons, List.not_mem_nil, or_false] at h
    rcases h with rfl | rfl | rfl | rfl
    · exact va_Nw.use rfl (va_Nw.warmD hW h1)
    · exact va_Nw.use rfl (va_Nw.warmD hW h1)
    · exact va_Nw.use rfl (va_Nw.warmD hW h1)
    · exact va_Nw.use rfl (va_Nw.warmC hW h1)
  · have h1 := hX.2.1 w h
    simp only [List.mem_cons, List.not_mem_nil, or_false] at h
    rcases h with rfl | rfl
    · exact ls_heap (s := s.setVm U.vm) rfl hH (Cond.holds_shifted (State.Shifted.of_warmed hW) stU [] rfl h1)
    · exact ls_heap (s := s.setVm U.vm) rfl hH (Cond.holds_shifted (State.Shifted.of_warmed hW) stS [] rfl h1)
  · have h1 := hX.2.2 w h
    have hu := hX.2.1 stU (by simp)
    have hs := hX.2.1 stS (by simp)
    simp only [thR, List.mem_cons, List.not_mem_nil, or_false] at h
    rcases h with rfl | rfl
    · exact isRef_at hW hH hu hini h1
    · exact isRef_at hW hH hs hini h1
