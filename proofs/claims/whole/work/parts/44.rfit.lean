section MF
variable {th : Int32} {st : Int64} {ce no pa wa at' hi be ra ne is' : Int32} {re : Int64}
variable {post : Int32 → Int32 → (Nat → Int32) → (Nat → Int64) → Prop} {V : Nat → Int64} {K A B : Nat → Int32}
theorem mo_fit {n : Nat} {Z : Nat → Int32} {cells : Nat} (w : WFn n K A B Z cells) {v : Int64} :
    ∀ (l d : Nat), isL K n l → l ≤ d → (∀ s T' U', ftF K A B V d l v = some s → post s 0 T' U') → (ftF K A B V d l v = none → ∀ T' U', post 0 1 T' U') →
      ∃ k, ∀ T U, wl_Mo_fitting_3 post th st ce no pa wa at' hi be ra ne is' re V K A B k 0 T U v (nI l) := by
  have hn := w.1
  intro l
  induction l using Nat.strongRecOn with
  | _ l ih =>
    intro d hl hd hs hnn
    rcases hl with rfl | ⟨l1, l2, l3⟩
    · exact ⟨1, fun T U => ⟨fun _ => hs 0 T U (by cases d <;> simp [ftF]), fun c => absurd (by rw [nI_0]; decide) c⟩⟩
    · obtain ⟨q, r, s, q3, q1, q2, q4, r1, r2, r3, s3, s1, s2, s4, hx⟩ := list_cases w l1 l2 l3
      obtain ⟨d, rfl⟩ : ∃ e, d = e + 1 := ⟨d - 1, by omega⟩
      have e1 : ¬ nI l ≤ 0 := n_pos_nle l1 (by omega)
      have cl : (nI l).toNatClampNeg = l := nI_clamp (by omega)
      have cq : (nI q).toNatClampNeg = q := nI_clamp (by omega)
      have vl : vp_in (nI l) 201 := vp_in_nI (by omega) (by omega)
      have vq : vp_in (nI q) 201 := vp_in_nI (by omega) (by omega)
      simp only [ftF, if_neg (show ¬ l = 0 by omega), q3, r1, cq, nI_clamp (show r < 2 ^ 31 by omega)] at hs hnn
      rcases hx with hx | ⟨x, x3, x1, x2, x4⟩
      · rw [if_pos hx] at hs
        refine ⟨1, fun T U => ⟨fun c => absurd c e1, fun _ => ⟨vl, ?_⟩⟩⟩
        rw [cl, q3, cq]
        refine ⟨vq, fun x6 h6 => ?_⟩
        rw [hx] at h6
        subst h6
        exact ⟨fun c => absurd rfl c, fun _ => ⟨vq, hs _ _ _ rfl⟩⟩
      · have hxz : ¬ A q = 0 := by rw [x3]; exact nI_ne0 x1 (by omega)
        have cx : (nI x).toNatClampNeg = x := nI_clamp (by omega)
        have vx : vp_in (nI x) 201 := vp_in_nI (by omega) (by omega)
        rw [if_neg hxz, x3, cx] at hs hnn
        have hk : ∃ k, fitO K A B V x v = some false → ∀ T U, wl_Mo_fitting_3 post th st ce no pa wa at' hi be ra ne is' re V K A B k 0 T U v (nI r) := by
          by_cases hf : fitO K A B V x v = some false
          · rw [hf] at hs hnn
            obtain ⟨k, hk⟩ := ih r r2 d r3 (by omega) (fun s T' U' h => hs s T' U' h) (fun h => hnn h)
            exact ⟨k, fun _ => hk⟩
          · exact ⟨0, fun h => absurd h hf⟩
        obtain ⟨k, hk⟩ := hk
        refine ⟨k + 1, fun T U => ⟨fun c => absurd c e1, fun _ => ⟨vl, ?_⟩⟩⟩
        rw [cl, q3, cq]
        refine ⟨vq, fun x6 h6 => ?_⟩
        rw [x3] at h6
        subst h6
        refine ⟨fun _ => ⟨vx, ?_⟩, fun c => absurd c (nI_ne0 x1 (by omega))⟩
        rw [cx, r1]
        -- what is done with the answer of the comparison
        have fin : ∀ (b : Bool) (T U), fitO K A B V x v = some b → (b = true → vp_in (nI q) 201 ∧ post (B q) 0 T U) ∧ (b = false → vp_in (nI l) 201 ∧ wl_Mo_fitting_3 post th st ce no pa wa at' hi be ra ne is' re V K A B k 0 T U v (nI r)) := by
          intro b T U hb
          refine ⟨fun h => ⟨vq, ?_⟩, fun h => ⟨vl, ?_⟩⟩
          · subst h
            rw [hb] at hs
            exact hs _ _ _ rfl
          · subst h
            exact hk hb T U
        have bad : fitO K A B V x v = none → ∀ T U, post 0 1 T U := fun h => hnn (by rw [h]; rfl)
        refine ⟨fun c8 => ?_, fun c8 => ⟨vx, ?_⟩⟩
        · have hv : isV (K x) = true := x4.resolve_right c8
          have hfo : fitO K A B V x v = (EV K A B V x).bind fun y => some (decide (y = v)) := by unfold fitO; rw [if_neg c8]
          refine mo_value w x1 (by omega) hv (fun y T' U' hy => ?_) (fun hy T' U' => ⟨fun c => absurd c (by decide), fun _ => bad (by rw [hfo, hy]; rfl) _ _⟩)
          refine ⟨fun _ => ⟨vx, fun _ => ⟨fun _ => ?_, fun c => absurd rfl c⟩, fun c => absurd c c8⟩, fun c => absurd rfl c⟩
          have hb : fitO K A B V x v = some (decide (y = v)) := by rw [hfo, hy]; rfl
          rw [lg_cmp_lt, lg_cmp_gt]
          refine ⟨fun q => (fin _ T' U' hb).2 ?_, fun q => ⟨fun q2 => (fin _ T' U' hb).2 ?_, fun q2 => (fin _ T' U' hb).1 ?_⟩⟩
          · simp; rintro rfl; exact absurd q Int64.lt_irrefl
          · simp; rintro rfl; exact absurd q2 Int64.lt_irrefl
          · simp; exact Int64.le_antisymm (Int64.not_lt.mp q) (Int64.not_lt.mp q2)
        · obtain ⟨a, b, hA, hB, ha1, ha2, hb1, hb2, hva, hvb⟩ := range_cases (w.2.2 x x1 (by omega)) c8
          have hfo : fitO K A B V x v = (EV K A B V a).bind fun lo => (EV K A B V b).bind fun hi => some (decide (lo ≤ v) && decide (v ≤ hi)) := by
            unfold fitO; rw [if_pos c8, hA, hB, nI_clamp (by omega), nI_clamp (by omega)]
          rw [hA, hB]
          refine mo_value w ha1 (by omega) hva (fun lo T' U' hlo => ?_) (fun hlo T' U' => ⟨fun c => absurd c (by decide), fun _ => bad (by rw [hfo, hlo]; rfl) _ _⟩)
          refine ⟨fun _ => ⟨vx, fun c => absurd c8 c, fun _ => ⟨vx, ?_⟩⟩, fun c => absurd rfl c⟩
          refine mo_value w hb1 (by omega) hvb (fun hi2 T2 U2 hhi => ?_) (fun hhi T2 U2 => ⟨fun c => absurd c (by decide), fun _ => bad (by rw [hfo, hlo, hhi]; rfl) _ _⟩)
          refine ⟨fun _ => ?_, fun c => absurd rfl c⟩
          have hb : fitO K A B V x v = some (decide (lo ≤ v) && decide (v ≤ hi2)) := by rw [hfo, hlo, hhi]; rfl
          rw [lg_cmp_lt, lg_cmp_gt]
          refine ⟨fun q => (fin _ T2 U2 hb).2 ?_, fun q => ⟨fun q2 => (fin _ T2 U2 hb).2 ?_, fun q2 => (fin _ T2 U2 hb).1 ?_⟩⟩
          · simp [Int64.not_le.mpr q]
          · simp [Int64.not_le.mpr q2]
          · simp [Int64.not_lt.mp q, Int64.not_lt.mp q2]
theorem mo_fitting {n : Nat} {Z : Nat → Int32} {cells : Nat} (w : WFn n K A B Z cells) {v : Int64} {l d : Nat} {T : Nat → Int32} {U : Nat → Int64} (hl : isL K n l) (hd : l ≤ d) (hs : ∀ s T' U', ftF K A B V d l v = some s → post s 0 T' U') (hnn : ftF K A B V d l v = none → ∀ T' U', post 0 1 T' U') :
    wp_Mo_fitting post th st ce no pa wa at' hi be ra ne is' re 0 V K A B T U (nI l) v := by
  obtain ⟨k, hk⟩ := mo_fit (th := th) (st := st) (ce := ce) (no := no) (pa := pa) (wa := wa) (at' := at') (hi := hi) (be := be) (ra := ra) (ne := ne) (is' := is') (re := re) w l d hl hd hs hnn
  exact ⟨k, hk T U⟩
end MF
