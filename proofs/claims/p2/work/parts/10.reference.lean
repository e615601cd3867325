set_option maxHeartbeats 4000000 in
set_option maxRecDepth 100000 in
theorem c_m_isWord1 (l : Launch) (dC : Nat → ClassId) (dI : Nat → Nat → Nat)  (sz : Nat) : Met l yX9_isWord wsX9_isWord ({ frames := 0, cells := 0, slots := 0, locals := 0 } : Room) (va_Pc [.int 1] (fun U => U.heap.size = sz ∧ va_P (dC, dI) vwCl [] U.heap ∧ va_K (dC, dI) vwCl [] U ∧ va_D (fun _ => True) [])) (va_Qi (fun (r : Int32) (u : Unit) => (1 = r)) (fun (u : Unit) (t : State) => va_P (dC, dI) vwCl [] t.heap ∧ va_K (dC, dI) vwCl [] t ∧ va_D (va_A [] sz) []) (va_A [] sz)) 0 0 (va_A [] sz) := by
  refine Met.ofW (cc := cX9_isWord) (maxL := 1) (ret := (some .boolean)) (by decide) rfl ?_
  intro p e s m args below meth c s₁ B hml hv
  obtain ⟨rfl, hsz, hP, hK, hD0⟩ := hv
  have hx := B.exec
  have hb := B.bytes
  have hr := B.returns
  have hts := atoms_spec (ws := wsX9_isWord) B.pre
  have hown : s.vm.findClass RX9 = some m.cls := findClass_of_methodNamed B.named
  have hlocks := B.notSynchronized
  have hD := hD0.self (sz := sz)
  generalize hAe : va_A [] sz = A at hD ⊢
  have hA : ∀ q : Nat, s.heap.size ≤ q → A q := fun q h => by rw [← hAe]; exact Or.inr (by omega)
  have hS0 : ∀ G : Heap, s.heap = G → va_S A s.heap G [] := fun G h => by subst h; exact va_S.rf
  generalize hHe : s.heap = H at hP ⊢
  have hS := hS0 H hHe
  have hP : va_P (dC, dI) vwCl [] H := hP
  have hD : va_D A [] := hD
  have hK : va_K (dC, dI) vwCl [] s := hK
  have hl := lv_entry ([.int 1]) (n := 1) (Nat.le_of_ble_eq_true rfl)
  rw [lg_entry_eq]
  generalize (lg_sl ([.int 1]) ++ List.replicate (1 - (lg_sl ([.int 1])).length) Slot.unset).toArray = ls at hl ⊢
  have hl : lv_has ls 1 [(0, .int 1)] := hl
  refine lv_iload_n hx hb dX9_isWord_0 rfl (lv_at hl 0 rfl) ?_
  refine lv_if_lt (tgt := 14) hx hb dX9_isWord_1 (by decide) (fun c1 => ?_) (fun c1 => ?_)
  · exact absurd c1 (by decide)
  · skip
    refine lv_iload_n hx hb dX9_isWord_4 rfl (lv_at hl 0 rfl) ?_
    refine lv_ldc (v := 65536) hx hb hown (hts (.constant RX9 51 (65536)) (by decide +kernel)) dX9_isWord_5 ?_
    refine lv_icmp_ge (tgt := 14) hx hb dX9_isWord_7 (by decide) (fun c2 => ?_) (fun c2 => ?_)
    · exact absurd c2 (by decide)
    · skip
      refine lv_iconst (v := 1) hx hb dX9_isWord_10 (by decide) ?_
      refine lv_goto (tgt := 15) hx hb dX9_isWord_11 (by decide) ?_
      have hP9 := hP.sub (ws' := []) [] rfl
      have hD9 := hD.sub (ws' := []) [] (by decide) rfl
      have hK9 := hK.sub (tys' := []) [] rfl
      exact W.zret (v := 1) hx hb hr (by decide) (fun t ht hW => ⟨⟨1, (), rfl, rfl, by rw [ht]; exact hP9, va_K.moved hW.alike hK9, hD9⟩, hS.F ht⟩) hS.2.2 dX9_isWord_15
set_option maxHeartbeats 4000000 in
set_option maxRecDepth 100000 in
theorem c_m_isWord224 (l : Launch) (dC : Nat → ClassId) (dI : Nat → Nat → Nat)  (sz : Nat) : Met l yX9_isWord wsX9_isWord ({ frames := 0, cells := 0, slots := 0, locals := 0 } : Room) (va_Pc [.int 224] (fun U => U.heap.size = sz ∧ va_P (dC, dI) vwCl [] U.heap ∧ va_K (dC, dI) vwCl [] U ∧ va_D (fun _ => True) [])) (va_Qi (fun (r : Int32) (u : Unit) => (1 = r)) (fun (u : Unit) (t : State) => va_P (dC, dI) vwCl [] t.heap ∧ va_K (dC, dI) vwCl [] t ∧ va_D (va_A [] sz) []) (va_A [] sz)) 0 0 (va_A [] sz) := by
  refine Met.ofW (cc := cX9_isWord) (maxL := 1) (ret := (some .boolean)) (by decide) rfl ?_
  intro p e s m args below meth c s₁ B hml hv
  obtain ⟨rfl, hsz, hP, hK, hD0⟩ := hv
  have hx := B.exec
  have hb := B.bytes
  have hr := B.returns
  have hts := atoms_spec (ws := wsX9_isWord) B.pre
  have hown : s.vm.findClass RX9 = some m.cls := findClass_of_methodNamed B.named
  have hlocks := B.notSynchronized
  have hD := hD0.self (sz := sz)
  generalize hAe : va_A [] sz = A at hD ⊢
  have hA : ∀ q : Nat, s.heap.size ≤ q → A q := fun q h => by rw [← hAe]; exact Or.inr (by omega)
  have hS0 : ∀ G : Heap, s.heap = G → va_S A s.heap G [] := fun G h => by subst h; exact va_S.rf
  generalize hHe : s.heap = H at hP ⊢
  have hS := hS0 H hHe
  have hP : va_P (dC, dI) vwCl [] H := hP
  have hD : va_D A [] := hD
  have hK : va_K (dC, dI) vwCl [] s := hK
  have hl := lv_entry ([.int 224]) (n := 1) (Nat.le_of_ble_eq_true rfl)
  rw [lg_entry_eq]
  generalize (lg_sl ([.int 224]) ++ List.replicate (1 - (lg_sl ([.int 224])).length) Slot.unset).toArray = ls at hl ⊢
  have hl : lv_has ls 1 [(0, .int 224)] := hl
  refine lv_iload_n hx hb dX9_isWord_0 rfl (lv_at hl 0 rfl) ?_
  refine lv_if_lt (tgt := 14) hx hb dX9_isWord_1 (by decide) (fun c1 => ?_) (fun c1 => ?_)
  · exact absurd c1 (by decide)
  · skip
    refine lv_iload_n hx hb dX9_isWord_4 rfl (lv_at hl 0 rfl) ?_
    refine lv_ldc (v := 65536) hx hb hown (hts (.constant RX9 51 (65536)) (by decide +kernel)) dX9_isWord_5 ?_
    refine lv_icmp_ge (tgt := 14) hx hb dX9_isWord_7 (by decide) (fun c2 => ?_) (fun c2 => ?_)
    · exact absurd c2 (by decide)
    · skip
      refine lv_iconst (v := 1) hx hb dX9_isWord_10 (by decide) ?_
      refine lv_goto (tgt := 15) hx hb dX9_isWord_11 (by decide) ?_
      have hP9 := hP.sub (ws' := []) [] rfl
      have hD9 := hD.sub (ws' := []) [] (by decide) rfl
      have hK9 := hK.sub (tys' := []) [] rfl
      exact W.zret (v := 1) hx hb hr (by decide) (fun t ht hW => ⟨⟨1, (), rfl, rfl, by rw [ht]; exact hP9, va_K.moved hW.alike hK9, hD9⟩, hS.F ht⟩) hS.2.2 dX9_isWord_15
set_option maxHeartbeats 4000000 in
set_option maxRecDepth 100000 in
theorem c_m_isWord1024 (l : Launch) (dC : Nat → ClassId) (dI : Nat → Nat → Nat)  (sz : Nat) : Met l yX9_isWord wsX9_isWord ({ frames := 0, cells := 0, slots := 0, locals := 0 } : Room) (va_Pc [.int 1024] (fun U => U.heap.size = sz ∧ va_P (dC, dI) vwCl [] U.heap ∧ va_K (dC, dI) vwCl [] U ∧ va_D (fun _ => True) [])) (va_Qi (fun (r : Int32) (u : Unit) => (1 = r)) (fun (u : Unit) (t : State) => va_P (dC, dI) vwCl [] t.heap ∧ va_K (dC, dI) vwCl [] t ∧ va_D (va_A [] sz) []) (va_A [] sz)) 0 0 (va_A [] sz) := by
  refine Met.ofW (cc := cX9_isWord) (maxL := 1) (ret := (some .boolean)) (by decide) rfl ?_
  intro p e s m args below meth c s₁ B hml hv
  obtain ⟨rfl, hsz, hP, hK, hD0⟩ := hv
  have hx := B.exec
  have hb := B.bytes
  have hr := B.returns
  have hts := atoms_spec (ws := wsX9_isWord) B.pre
  have hown : s.vm.findClass RX9 = some m.cls := findClass_of_methodNamed B.named
  have hlocks := B.notSynchronized
  have hD := hD0.self (sz := sz)
  generalize hAe : va_A [] sz = A at hD ⊢
  have hA : ∀ q : Nat, s.heap.size ≤ q → A q := fun q h => by rw [← hAe]; exact Or.inr (by omega)
  have hS0 : ∀ G : Heap, s.heap = G → va_S A s.heap G [] := fun G h => by subst h; exact va_S.rf
  generalize hHe : s.heap = H at hP ⊢
  have hS := hS0 H hHe
  have hP : va_P (dC, dI) vwCl [] H := hP
  have hD : va_D A [] := hD
  have hK : va_K (dC, dI) vwCl [] s := hK
  have hl := lv_entry ([.int 1024]) (n := 1) (Nat.le_of_ble_eq_true rfl)
  rw [lg_entry_eq]
  generalize (lg_sl ([.int 1024]) ++ List.replicate (1 - (lg_sl ([.int 1024])).length) Slot.unset).toArray = ls at hl ⊢
  have hl : lv_has ls 1 [(0, .int 1024)] := hl
  refine lv_iload_n hx hb dX9_isWord_0 rfl (lv_at hl 0 rfl) ?_
  refine lv_if_lt (tgt := 14) hx hb dX9_isWord_1 (by decide) (fun c1 => ?_) (fun c1 => ?_)
  · exact absurd c1 (by decide)
  · skip
    refine lv_iload_n hx hb dX9_isWord_4 rfl (lv_at hl 0 rfl) ?_
    refine lv_ldc (v := 65536) hx hb hown (hts (.constant RX9 51 (65536)) (by decide +kernel)) dX9_isWord_5 ?_
    refine lv_icmp_ge (tgt := 14) hx hb dX9_isWord_7 (by decide) (fun c2 => ?_) (fun c2 => ?_)
    · exact absurd c2 (by decide)
    · skip
      refine lv_iconst (v := 1) hx hb dX9_isWord_10 (by decide) ?_
      refine lv_goto (tgt := 15) hx hb dX9_isWord_11 (by decide) ?_
      have hP9 := hP.sub (ws' := []) [] rfl
      have hD9 := hD.sub (ws' := []) [] (by decide) rfl
      have hK9 := hK.sub (tys' := []) [] rfl
      exact W.zret (v := 1) hx hb hr (by decide) (fun t ht hW => ⟨⟨1, (), rfl, rfl, by rw [ht]; exact hP9, va_K.moved hW.alike hK9, hD9⟩, hS.F ht⟩) hS.2.2 dX9_isWord_15
set_option maxHeartbeats 4000000 in
set_option maxRecDepth 100000 in
theorem c_m_cell4 (l : Launch) (dC : Nat → ClassId) (dI : Nat → Nat → Nat)  (sz : Nat) : Met l yX9_cell wsX9_cell ({ frames := 0, cells := 0, slots := 0, locals := 0 } : Room) (va_Pc [.int 4] (fun U => U.heap.size = sz ∧ va_P (dC, dI) vwCl [] U.heap ∧ va_K (dC, dI) vwCl [] U ∧ va_D (fun _ => True) [])) (va_Qi (fun (r : Int32) (u : Unit) => (1 = r)) (fun (u : Unit) (t : State) => va_P (dC, dI) vwCl [] t.heap ∧ va_K (dC, dI) vwCl [] t ∧ va_D (va_A [] sz) []) (va_A [] sz)) 0 0 (va_A [] sz) := by
  refine Met.ofW (cc := cX9_cell) (maxL := 1) (ret := (some .boolean)) (by decide) rfl ?_
  intro p e s m args below meth c s₁ B hml hv
  obtain ⟨rfl, hsz, hP, hK, hD0⟩ := hv
  have hx := B.exec
  have hb := B.bytes
  have hr := B.returns
  have hts := atoms_spec (ws := wsX9_cell) B.pre
  have hown : s.vm.findClass RX9 = some m.cls := findClass_of_methodNamed B.named
  have hlocks := B.notSynchronized
  have hD := hD0.self (sz := sz)
  generalize hAe : va_A [] sz = A at hD ⊢
  have hA : ∀ q : Nat, s.heap.size ≤ q → A q := fun q h => by rw [← hAe]; exact Or.inr (by omega)
  have hS0 : ∀ G : Heap, s.heap = G → va_S A s.heap G [] := fun G h => by subst h; exact va_S.rf
  generalize hHe : s.heap = H at hP ⊢
  have hS := hS0 H hHe
  have hP : va_P (dC, dI) vwCl [] H := hP
  have hD : va_D A [] := hD
  have hK : va_K (dC, dI) vwCl [] s := hK
  have hl := lv_entry ([.int 4]) (n := 1) (Nat.le_of_ble_eq_true rfl)
  rw [lg_entry_eq]
  generalize (lg_sl ([.int 4]) ++ List.replicate (1 - (lg_sl ([.int 4])).length) Slot.unset).toArray = ls at hl ⊢
  have hl : lv_has ls 1 [(0, .int 4)] := hl
  refine lv_iload_n hx hb dX9_cell_0 rfl (lv_at hl 0 rfl) ?_
  refine lv_if_lt (tgt := 21) hx hb dX9_cell_1 (by decide) (fun c1 => ?_) (fun c1 => ?_)
  · exact absurd c1 (by decide)
  · skip
    refine lv_iload_n hx hb dX9_cell_4 rfl (lv_at hl 0 rfl) ?_
    refine lv_sipush (v := 1024) hx hb dX9_cell_5 (by decide) ?_
    refine lv_icmp_ge (tgt := 21) hx hb dX9_cell_8 (by decide) (fun c2 => ?_) (fun c2 => ?_)
    · exact absurd c2 (by decide)
    · skip
      refine lv_iload_n hx hb dX9_cell_11 rfl (lv_at hl 0 rfl) ?_
      refine lv_iconst (v := 2) hx hb dX9_cell_12 (by decide) ?_
      refine lv_irem hx hb dX9_cell_13 (by decide) ?_
      refine lv_topi (fun y3 ey3 => ?_)
      obtain rfl : y3 = 0 := by rw [ey3]; decide
      refine lv_if_ne (tgt := 21) hx hb dX9_cell_14 (by decide) (fun c4 => ?_) (fun c4 => ?_)
      · exact absurd c4 (by decide)
      · skip
        refine lv_iconst (v := 1) hx hb dX9_cell_17 (by decide) ?_
        refine lv_goto (tgt := 22) hx hb dX9_cell_18 (by decide) ?_
        have hP9 := hP.sub (ws' := []) [] rfl
        have hD9 := hD.sub (ws' := []) [] (by decide) rfl
        have hK9 := hK.sub (tys' := []) [] rfl
        exact W.zret (v := 1) hx hb hr (by decide) (fun t ht hW => ⟨⟨1, (), rfl, rfl, by rw [ht]; exact hP9, va_K.moved hW.alike hK9, hD9⟩, hS.F ht⟩) hS.2.2 dX9_cell_22
set_option maxHeartbeats 4000000 in
set_option maxRecDepth 100000 in
theorem c_m_cell6 (l : Launch) (dC : Nat → ClassId) (dI : Nat → Nat → Nat)  (sz : Nat) : Met l yX9_cell wsX9_cell ({ frames := 0, cells := 0, slots := 0, locals := 0 } : Room) (va_Pc [.int 6] (fun U => U.heap.size = sz ∧ va_P (dC, dI) vwCl [] U.heap ∧ va_K (dC, dI) vwCl [] U ∧ va_D (fun _ => True) [])) (va_Qi (fun (r : Int32) (u : Unit) => (1 = r)) (fun (u : Unit) (t : State) => va_P (dC, dI) vwCl [] t.heap ∧ va_K (dC, dI) vwCl [] t ∧ va_D (va_A [] sz) []) (va_A [] sz)) 0 0 (va_A [] sz) := by
  refine Met.ofW (cc := cX9_cell) (maxL := 1) (ret := (some .boolean)) (by decide) rfl ?_
  intro p e s m args below meth c s₁ B hml hv
  obtain ⟨rfl, hsz, hP, hK, hD0⟩ := hv
  have hx := B.exec
  have hb := B.bytes
  have hr := B.returns
  have hts := atoms_spec (ws := wsX9_cell) B.pre
  have hown : s.vm.findClass RX9 = some m.cls := findClass_of_methodNamed B.named
  have hlocks := B.notSynchronized
  have hD := hD0.self (sz := sz)
  generalize hAe : va_A [] sz = A at hD ⊢
  have hA : ∀ q : Nat, s.heap.size ≤ q → A q := fun q h => by rw [← hAe]; exact Or.inr (by omega)
  have hS0 : ∀ G : Heap, s.heap = G → va_S A s.heap G [] := fun G h => by subst h; exact va_S.rf
  generalize hHe : s.heap = H at hP ⊢
  have hS := hS0 H hHe
  have hP : va_P (dC, dI) vwCl [] H := hP
  have hD : va_D A [] := hD
  have hK : va_K (dC, dI) vwCl [] s := hK
  have hl := lv_entry ([.int 6]) (n := 1) (Nat.le_of_ble_eq_true rfl)
  rw [lg_entry_eq]
  generalize (lg_sl ([.int 6]) ++ List.replicate (1 - (lg_sl ([.int 6])).length) Slot.unset).toArray = ls at hl ⊢
  have hl : lv_has ls 1 [(0, .int 6)] := hl
  refine lv_iload_n hx hb dX9_cell_0 rfl (lv_at hl 0 rfl) ?_
  refine lv_if_lt (tgt := 21) hx hb dX9_cell_1 (by decide) (fun c1 => ?_) (fun c1 => ?_)
  · exact absurd c1 (by decide)
  · skip
    refine lv_iload_n hx hb dX9_cell_4 rfl (lv_at hl 0 rfl) ?_
    refine lv_sipush (v := 1024) hx hb dX9_cell_5 (by decide) ?_
    refine lv_icmp_ge (tgt := 21) hx hb dX9_cell_8 (by decide) (fun c2 => ?_) (fun c2 => ?_)
    · exact absurd c2 (by decide)
    · skip
      refine lv_iload_n hx hb dX9_cell_11 rfl (lv_at hl 0 rfl) ?_
      refine lv_iconst (v := 2) hx hb dX9_cell_12 (by decide) ?_
      refine lv_irem hx hb dX9_cell_13 (by decide) ?_
      refine lv_topi (fun y3 ey3 => ?_)
      obtain rfl : y3 = 0 := by rw [ey3]; decide
      refine lv_if_ne (tgt := 21) hx hb dX9_cell_14 (by decide) (fun c4 => ?_) (fun c4 => ?_)
      · exact absurd c4 (by decide)
      · skip
        refine lv_iconst (v := 1) hx hb dX9_cell_17 (by decide) ?_
        refine lv_goto (tgt := 22) hx hb dX9_cell_18 (by decide) ?_
        have hP9 := hP.sub (ws' := []) [] rfl
        have hD9 := hD.sub (ws' := []) [] (by decide) rfl
        have hK9 := hK.sub (tys' := []) [] rfl
        exact W.zret (v := 1) hx hb hr (by decide) (fun t ht hW => ⟨⟨1, (), rfl, rfl, by rw [ht]; exact hP9, va_K.moved hW.alike hK9, hD9⟩, hS.F ht⟩) hS.2.2 dX9_cell_22
set_option maxHeartbeats 4000000 in
set_option maxRecDepth 100000 in
theorem c_m_out (l : Launch) (dC : Nat → ClassId) (dI : Nat → Nat → Nat)  (sz : Nat) : Met l yX9_out wsX9_out ({ frames := 0, cells := 0, slots := 0, locals := 0 } : Room) (va_Pc [.int 6, .int 8] (fun U => U.heap.size = sz ∧ va_P (dC, dI) vwCl [] U.heap ∧ va_K (dC, dI) vwCl [] U ∧ va_D (fun _ => True) [])) (va_Qi (fun (r : Int32) (u : Unit) => (0 = r)) (fun (u : Unit) (t : State) => va_P (dC, dI) vwCl [] t.heap ∧ va_K (dC, dI) vwCl [] t ∧ va_D (va_A [] sz) []) (va_A [] sz)) 0 0 (va_A [] sz) := by
  refine Met.ofW (cc := cX9_out) (maxL := 2) (ret := (some .boolean)) (by decide) rfl ?_
  intro p e s m args below meth c s₁ B hml hv
  obtain ⟨rfl, hsz, hP, hK, hD0⟩ := hv
  have hx := B.exec
  have hb := B.bytes
  have hr := B.returns
  have hts := atoms_spec (ws := wsX9_out) B.pre
  have hown : s.vm.findClass RX9 = some m.cls := findClass_of_methodNamed B.named
  have hlocks := B.notSynchronized
  have hD := hD0.self (sz := sz)
  generalize hAe : va_A [] sz = A at hD ⊢
  have hA : ∀ q : Nat, s.heap.size ≤ q → A q := fun q h => by rw [← hAe]; exact Or.inr (by omega)
  have hS0 : ∀ G : Heap, s.heap = G → va_S A s.heap G [] := fun G h => by subst h; exact va_S.rf
  generalize hHe : s.heap = H at hP ⊢
  have hS := hS0 H hHe
  have hP : va_P (dC, dI) vwCl [] H := hP
  have hD : va_D A [] := hD
  have hK : va_K (dC, dI) vwCl [] s := hK
  have hl := lv_entry ([.int 6, .int 8]) (n := 2) (Nat.le_of_ble_eq_true rfl)
  rw [lg_entry_eq]
  generalize (lg_sl ([.int 6, .int 8]) ++ List.replicate (2 - (lg_sl ([.int 6, .int 8])).length) Slot.unset).toArray = ls at hl ⊢
  have hl : lv_has ls 2 [(0, .int 6), (1, .int 8)] := hl
  refine lv_iload_n hx hb dX9_out_0 rfl (lv_at hl 0 rfl) ?_
  refine lv_if_lt (tgt := 9) hx hb dX9_out_1 (by decide) (fun c1 => ?_) (fun c1 => ?_)
  · exact absurd c1 (by decide)
  · skip
    refine lv_iload_n hx hb dX9_out_4 rfl (lv_at hl 0 rfl) ?_
    refine lv_iload_n hx hb dX9_out_5 rfl (lv_at hl 1 rfl) ?_
    refine lv_icmp_lt (tgt := 13) hx hb dX9_out_6 (by decide) (fun c2 => ?_) (fun c2 => ?_)
    · skip
      refine lv_iconst (v := 0) hx hb dX9_out_13 (by decide) ?_
      have hP9 := hP.sub (ws' := []) [] rfl
      have hD9 := hD.sub (ws' := []) [] (by decide) rfl
      have hK9 := hK.sub (tys' := []) [] rfl
      exact W.zret (v := 0) hx hb hr (by decide) (fun t ht hW => ⟨⟨0, (), rfl, rfl, by rw [ht]; exact hP9, va_K.moved hW.alike hK9, hD9⟩, hS.F ht⟩) hS.2.2 dX9_out_14
    · exact absurd c2 (by decide)
set_option maxHeartbeats 4000000 in
set_option maxRecDepth 100000 in
theorem c_m_bit (l : Launch) (dC : Nat → ClassId) (dI : Nat → Nat → Nat)  (sz : Nat) : Met l yX9_bit wsX9_bit ({ frames := 0, cells := 0, slots := 0, locals := 0 } : Room) (va_Pc [.int 0, .int 4096] (fun U => U.heap.size = sz ∧ va_P (dC, dI) vwCl [] U.heap ∧ va_K (dC, dI) vwCl [] U ∧ va_D (fun _ => True) [])) (va_Qi (fun (r : Int32) (u : Unit) => (0 = r)) (fun (u : Unit) (t : State) => va_P (dC, dI) vwCl [] t.heap ∧ va_K (dC, dI) vwCl [] t ∧ va_D (va_A [] sz) []) (va_A [] sz)) 0 0 (va_A [] sz) := by
  refine Met.ofW (cc := cX9_bit) (maxL := 2) (ret := (some .int)) (by decide) rfl ?_
  intro p e s m args below meth c s₁ B hml hv
  obtain ⟨rfl, hsz, hP, hK, hD0⟩ := hv
  have hx := B.exec
  have hb := B.bytes
  have hr := B.returns
  have hts := atoms_spec (ws := wsX9_bit) B.pre
  have hown : s.vm.findClass RX9 = some m.cls := findClass_of_methodNamed B.named
  have hlocks := B.notSynchronized
  have hD := hD0.self (sz := sz)
  generalize hAe : va_A [] sz = A at hD ⊢
  have hA : ∀ q : Nat, s.heap.size ≤ q → A q := fun q h => by rw [← hAe]; exact Or.inr (by omega)
  have hS0 : ∀ G : Heap, s.heap = G → va_S A s.heap G [] := fun G h => by subst h; exact va_S.rf
  generalize hHe : s.heap = H at hP ⊢
  have hS := hS0 H hHe
  have hP : va_P (dC, dI) vwCl [] H := hP
  have hD : va_D A [] := hD
  have hK : va_K (dC, dI) vwCl [] s := hK
  have hl := lv_entry ([.int 0, .int 4096]) (n := 2) (Nat.le_of_ble_eq_true rfl)
  rw [lg_entry_eq]
  generalize (lg_sl ([.int 0, .int 4096]) ++ List.replicate (2 - (lg_sl ([.int 0, .int 4096])).length) Slot.unset).toArray = ls at hl ⊢
  have hl : lv_has ls 2 [(0, .int 0), (1, .int 4096)] := hl
  refine lv_iload_n hx hb dX9_bit_0 rfl (lv_at hl 0 rfl) ?_
  refine lv_if_eq (tgt := 8) hx hb dX9_bit_1 (by decide) (fun c1 => ?_) (fun c1 => ?_)
  · skip
    refine lv_iconst (v := 0) hx hb dX9_bit_8 (by decide) ?_
    have hP9 := hP.sub (ws' := []) [] rfl
    have hD9 := hD.sub (ws' := []) [] (by decide) rfl
    have hK9 := hK.sub (tys' := []) [] rfl
    exact W.iret (v := 0) hx hb hr (fun t ht hW => ⟨⟨0, (), rfl, rfl, by rw [ht]; exact hP9, va_K.moved hW.alike hK9, hD9⟩, hS.F ht⟩) hS.2.2 dX9_bit_9
  · exact absurd c1 (by decide)
set_option maxHeartbeats 4000000 in
set_option maxRecDepth 100000 in
theorem c_m_thrown (l : Launch) (dC : Nat → ClassId) (dI : Nat → Nat → Nat) (h0 : Nat) (am : Nat) (ad : Nat) (ab : Nat) (ar : Nat) (az : Nat) (ae : Nat) (ao : Nat) (an : Nat) (au : Nat) (ap : Nat) (aw : Nat) (sz : Nat) : Met l yX9_thrown wsX9_thrown ({ frames := 0, cells := 0, slots := 0, locals := 0 } : Room) (va_Pc [.ref h0] (fun U => U.heap.size = sz ∧ va_P (dC, dI) vwCl [(h0, .inr (8, [.int 0, .ref am, .ref ad, .ref ab, .int 0, .int 0, .ref ar, .int 0, .int 0, .int 2, .int 0, .int 0, .int 0, .ref az, .ref ae, .ref ao, .ref an, .ref au, .int 0, .int 0, .int 0, .ref ap, .ref aw, .int 0, .int 0, .int 0, .int 0, .int 0]))] U.heap ∧ va_K (dC, dI) vwCl [] U ∧ va_D (fun _ => True) [(h0, .inr (8, [.int 0, .ref am, .ref ad, .ref ab, .int 0, .int 0, .ref ar, .int 0, .int 0, .int 2, .int 0, .int 0, .int 0, .ref az, .ref ae, .ref ao, .ref an, .ref au, .int 0, .int 0, .int 0, .ref ap, .ref aw, .int 0, .int 0, .int 0, .int 0, .int 0]))])) (va_Qi (fun (r : Int32) (u : Unit) => (0 = r)) (fun (u : Unit) (t : State) => va_P (dC, dI) vwCl [(h0, .inr (8, [.int 0, .ref am, .ref ad, .ref ab, .int 0, .int 0, .ref ar, .int 0, .int 0, .int 2, .int 0, .int 0, .int 0, .ref az, .ref ae, .ref ao, .ref an, .ref au, .int 0, .int 0, .int 0, .ref ap, .ref aw, .int 0, .int 0, .int 0, .int 0, .int 0]))] t.heap ∧ va_K (dC, dI) vwCl [] t ∧ va_D (va_A [(h0, .inr (8, [.int 0, .ref am, .ref ad, .ref ab, .int 0, .int 0, .ref ar, .int 0, .int 0, .int 2, .int 0, .int 0, .int 0, .ref az, .ref ae, .ref ao, .ref an, .ref au, .int 0, .int 0, .int 0, .ref ap, .ref aw, .int 0, .int 0, .int 0, .int 0, .int 0]))] sz) [(h0, .inr (8, [.int 0, .ref am, .ref ad, .ref ab, .int 0, .int 0, .ref ar, .int 0, .int 0, .int 2, .int 0, .int 0, .int 0, .ref az, .ref ae, .ref ao, .ref an, .ref au, .int 0, .int 0, .int 0, .ref ap, .ref aw, .int 0, .int 0, .int 0, .int 0, .int 0]))]) (va_A [(h0, .inr (8, [.int 0, .ref am, .ref ad, .ref ab, .int 0, .int 0, .ref ar, .int 0, .int 0, .int 2, .int 0, .int 0, .int 0, .ref az, .ref ae, .ref ao, .ref an, .ref au, .int 0, .int 0, .int 0, .ref ap, .ref aw, .int 0, .int 0, .int 0, .int 0, .int 0]))] sz)) 0 0 (va_A [(h0, .inr (8, [.int 0, .ref am, .ref ad, .ref ab, .int 0, .int 0, .ref ar, .int 0, .int 0, .int 2, .int 0, .int 0, .int 0, .ref az, .ref ae, .ref ao, .ref an, .ref au, .int 0, .int 0, .int 0, .ref ap, .ref aw, .int 0, .int 0, .int 0, .int 0, .int 0]))] sz) := by
  refine Met.ofW (cc := cX9_thrown) (maxL := 1) (ret := (some .int)) (by decide) rfl ?_
  intro p e s m args below meth c s₁ B hml hv
  obtain ⟨rfl, hsz, hP, hK, hD0⟩ := hv
  have hx := B.exec
  have hb := B.bytes
  have hr := B.returns
  have hts := atoms_spec (ws := wsX9_thrown) B.pre
  have hown : s.vm.findClass RX9 = some m.cls := findClass_of_methodNamed B.named
  have hlocks := B.notSynchronized
  have hD := hD0.self (sz := sz)
  generalize hAe : va_A [(h0, .inr (8, [.int 0, .ref am, .ref ad, .ref ab, .int 0, .int 0, .ref ar, .int 0, .int 0, .int 2, .int 0, .int 0, .int 0, .ref az, .ref ae, .ref ao, .ref an, .ref au, .int 0, .int 0, .int 0, .ref ap, .ref aw, .int 0, .int 0, .int 0, .int 0, .int 0]))] sz = A at hD ⊢
  have hA : ∀ q : Nat, s.heap.size ≤ q → A q := fun q h => by rw [← hAe]; exact Or.inr (by omega)
  have hS0 : ∀ G : Heap, s.heap = G → va_S A s.heap G [] := fun G h => by subst h; exact va_S.rf
  generalize hHe : s.heap = H at hP ⊢
  have hS := hS0 H hHe
  have hP : va_P (dC, dI) vwCl [(h0, .inr (8, [.int 0, .ref am, .ref ad, .ref ab, .int 0, .int 0, .ref ar, .int 0, .int 0, .int 2, .int 0, .int 0, .int 0, .ref az, .ref ae, .ref ao, .ref an, .ref au, .int 0, .int 0, .int 0, .ref ap, .ref aw, .int 0, .int 0, .int 0, .int 0, .int 0]))] H := hP
  have hD : va_D A [(h0, .inr (8, [.int 0, .ref am, .ref ad, .ref ab, .int 0, .int 0, .ref ar, .int 0, .int 0, .int 2, .int 0, .int 0, .int 0, .ref az, .ref ae, .ref ao, .ref an, .ref au, .int 0, .int 0, .int 0, .ref ap, .ref aw, .int 0, .int 0, .int 0, .int 0, .int 0]))] := hD
  have hK : va_K (dC, dI) vwCl [] s := hK
  have hl := lv_entry ([.ref h0]) (n := 1) (Nat.le_of_ble_eq_true rfl)
  rw [lg_entry_eq]
  generalize (lg_sl ([.ref h0]) ++ List.replicate (1 - (lg_sl ([.ref h0])).length) Slot.unset).toArray = ls at hl ⊢
  have hl : lv_has ls 1 [(0, .ref h0)] := hl
  refine lv_aload_n hx hb dX9_thrown_0 rfl (lv_at hl 0 rfl) ?_
  refine va_get (D := (dC, dI)) (ci := 8) (v := .int 0) (C := RX9) (T := TX9) (N := 28) hx hb hts (by decide +kernel) hown hK hP 0 rfl rfl 0 (by decide) (hts (.fieldLink RX9 48 "UnibusMachineModel" "thrown" "I") (by decide +kernel)) (fun _ h9 => h9) rfl dX9_thrown_1 ?_
  have hP9 := hP.sub (ws' := [(h0, .inr (8, [.int 0, .ref am, .ref ad, .ref ab, .int 0, .int 0, .ref ar, .int 0, .int 0, .int 2, .int 0, .int 0, .int 0, .ref az, .ref ae, .ref ao, .ref an, .ref au, .int 0, .int 0, .int 0, .ref ap, .ref aw, .int 0, .int 0, .int 0, .int 0, .int 0]))]) [0] rfl
  have hD9 := hD.sub (ws' := [(h0, .inr (8, [.int 0, .ref am, .ref ad, .ref ab, .int 0, .int 0, .ref ar, .int 0, .int 0, .int 2, .int 0, .int 0, .int 0, .ref az, .ref ae, .ref ao, .ref an, .ref au, .int 0, .int 0, .int 0, .ref ap, .ref aw, .int 0, .int 0, .int 0, .int 0, .int 0]))]) [0] (by decide) rfl
  have hK9 := hK.sub (tys' := []) [] rfl
  exact W.iret (v := 0) hx hb hr (fun t ht hW => ⟨⟨0, (), rfl, rfl, by rw [ht]; exact hP9, va_K.moved hW.alike hK9, hD9⟩, hS.F ht⟩) hS.2.2 dX9_thrown_4
set_option maxHeartbeats 4000000 in
set_option maxRecDepth 100000 in
theorem c_m_deposit4 (l : Launch) (dC : Nat → ClassId) (dI : Nat → Nat → Nat) (h0 : Nat) (am : Nat) (ad : Nat) (ab : Nat) (ar : Nat) (az : Nat) (ae : Nat) (ao : Nat) (an : Nat) (au : Nat) (ap : Nat) (aw : Nat) (tm : ClassId) (f : Nat → Int32) (sz : Nat) (hF0 : ∀ i : Nat, 0 ≤ (f i).toInt) : Met l yX9_deposit wsX9_deposit ({ frames := 1, cells := 0, slots := 0, locals := 20 } : Room) (va_Pc [.ref h0, .int 4, .int 1] (fun U => U.heap.size = sz ∧ va_P (dC, dI) vwCl [(h0, .inr (8, [.int 0, .ref am, .ref ad, .ref ab, .int 0, .int 0, .ref ar, .int 0, .int 0, .int 2, .int 0, .int 0, .int 0, .ref az, .ref ae, .ref ao, .ref an, .ref au, .int 0, .int 0, .int 0, .ref ap, .ref aw, .int 0, .int 0, .int 0, .int 0, .int 0])), (am, .inl (tm, 512, .inl f))] U.heap ∧ va_K (dC, dI) vwCl [(tm, .int)] U ∧ va_D (fun _ => True) [(h0, .inr (8, [.int 0, .ref am, .ref ad, .ref ab, .int 0, .int 0, .ref ar, .int 0, .int 0, .int 2, .int 0, .int 0, .int 0, .ref az, .ref ae, .ref ao, .ref an, .ref au, .int 0, .int 0, .int 0, .ref ap, .ref aw, .int 0, .int 0, .int 0, .int 0, .int 0])), (am, .inl (tm, 512, .inl f))])) (va_Qv (fun (u : (Nat → Int32)) => (u (2 : Int32).toNatClampNeg = 1) ∧ (∀ i : Nat, 0 ≤ (u i).toInt)) (fun (u : (Nat → Int32)) (t : State) => va_P (dC, dI) vwCl [(h0, .inr (8, [.int 0, .ref am, .ref ad, .ref ab, .int 0, .int 0, .ref ar, .int 0, .int 0, .int 2, .int 0, .int 0, .int 0, .ref az, .ref ae, .ref ao, .ref an, .ref au, .int 0, .int 0, .int 0, .ref ap, .ref aw, .int 0, .int 0, .int 0, .int 0, .int 0])), (am, .inl (tm, 512, .inl u))] t.heap ∧ va_K (dC, dI) vwCl [(tm, .int)] t ∧ va_D (va_A [(h0, .inr (8, [.int 0, .ref am, .ref ad, .ref ab, .int 0, .int 0, .ref ar, .int 0, .int 0, .int 2, .int 0, .int 0, .int 0, .ref az, .ref ae, .ref ao, .ref an, .ref au, .int 0, .int 0, .int 0, .ref ap, .ref aw, .int 0, .int 0, .int 0, .int 0, .int 0])), (am, .inl (tm, 512, .inl f))] sz) [(h0, .inr (8, [.int 0, .ref am, .ref ad, .ref ab, .int 0, .int 0, .ref ar, .int 0, .int 0, .int 2, .int 0, .int 0, .int 0, .ref az, .ref ae, .ref ao, .ref an, .ref au, .int 0, .int 0, .int 0, .ref ap, .ref aw, .int 0, .int 0, .int 0, .int 0, .int 0])), (am, .inl (tm, 512, .inl u))]) (va_A [(h0, .inr (8, [.int 0, .ref am, .ref ad, .ref ab, .int 0, .int 0, .ref ar, .int 0, .int 0, .int 2, .int 0, .int 0, .int 0, .ref az, .ref ae, .ref ao, .ref an, .ref au, .int 0, .int 0, .int 0, .ref ap, .ref aw, .int 0, .int 0, .int 0, .int 0, .int 0])), (am, .inl (tm, 512, .inl f))] sz)) 0 0 (va_A [(h0, .inr (8, [.int 0, .ref am, .ref ad, .ref ab, .int 0, .int 0, .ref ar, .int 0, .int 0, .int 2, .int 0, .int 0, .int 0, .ref az, .ref ae, .ref ao, .ref an, .ref au, .int 0, .int 0, .int 0, .ref ap, .ref aw, .int 0, .int 0, .int 0, .int 0, .int 0])), (am, .inl (tm, 512, .inl f))] sz) := by
  refine Met.ofW (cc := cX9_deposit) (maxL := 3) (ret := none) (by decide) rfl ?_
  intro p e s m args below meth c s₁ B hml hv
  obtain ⟨rfl, hsz, hP, hK, hD0⟩ := hv
  have hx := B.exec
  have hb := B.bytes
  have hr := B.returns
  have hts := atoms_spec (ws := wsX9_deposit) B.pre
  have hown : s.vm.findClass RX9 = some m.cls := findClass_of_methodNamed B.named
  have hlocks := B.notSynchronized
  have hD := hD0.self (sz := sz)
  generalize hAe : va_A [(h0, .inr (8, [.int 0, .ref am, .ref ad, .ref ab, .int 0, .int 0, .ref ar, .int 0, .int 0, .int 2, .int 0, .int 0, .int 0, .ref az, .ref ae, .ref ao, .ref an, .ref au, .int 0, .int 0, .int 0, .ref ap, .ref aw, .int 0, .int 0, .int 0, .int 0, .int 0])), (am, .inl (tm, 512, .inl f))] sz = A at hD ⊢
  have hA : ∀ q : Nat, s.heap.size ≤ q → A q := fun q h => by rw [← hAe]; exact Or.inr (by omega)
  have hS0 : ∀ G : Heap, s.heap = G → va_S A s.heap G [] := fun G h => by subst h; exact va_S.rf
  generalize hHe : s.heap = H at hP ⊢
  have hS := hS0 H hHe
  have hP : va_P (dC, dI) vwCl [(h0, .inr (8, [.int 0, .ref am, .ref ad, .ref ab, .int 0, .int 0, .ref ar, .int 0, .int 0, .int 2, .int 0, .int 0, .int 0, .ref az, .ref ae, .ref ao, .ref an, .ref au, .int 0, .int 0, .int 0, .ref ap, .ref aw, .int 0, .int 0, .int 0, .int 0, .int 0])), (am, .inl (tm, 512, .inl f))] H := hP
  have hD : va_D A [(h0, .inr (8, [.int 0, .ref am, .ref ad, .ref ab, .int 0, .int 0, .ref ar, .int 0, .int 0, .int 2, .int 0, .int 0, .int 0, .ref az, .ref ae, .ref ao, .ref an, .ref au, .int 0, .int 0, .int 0, .ref ap, .ref aw, .int 0, .int 0, .int 0, .int 0, .int 0])), (am, .inl (tm, 512, .inl f))] := hD
  have hK : va_K (dC, dI) vwCl [(tm, .int)] s := hK
  have hl := lv_entry ([.ref h0, .int 4, .int 1]) (n := 3) (Nat.le_of_ble_eq_true rfl)
  rw [lg_entry_eq]
  generalize (lg_sl ([.ref h0, .int 4, .int 1]) ++ List.replicate (3 - (lg_sl ([.ref h0, .int 4, .int 1])).length) Slot.unset).toArray = ls at hl ⊢
  have hl : lv_has ls 3 [(0, .ref h0), (1, .int 4), (2, .int 1)] := hl
  refine lv_aload_n hx hb dX9_deposit_0 rfl (lv_at hl 0 rfl) ?_
  refine lv_iload_n hx hb dX9_deposit_1 rfl (lv_at hl 1 rfl) ?_
  have hPc := hP.sub (ws' := []) [] rfl
  have hDc := hD.sub (ws' := []) [] (by decide) rfl
  have hKc := hK.sub (tys' := []) [] rfl
  have hFc := va_free (wc := []) hD hS hA [] rfl
  refine va_calli (va_runS (As := [.int 4]) (rest := [.ref h0]) ⟨hx, hb, hml, hown, hts⟩ (c_m_cell4 l dC dI  H.size) (va_cwS 1 hts gX9_deposit_X9_cell rfl rfl rfl (by decide +kernel) ⟨Nat.le_of_ble_eq_true rfl, Nat.le_of_ble_eq_true rfl⟩) ⟨fun a U g mk q => by obtain ⟨q0, q1, qP, qK, qD⟩ := q; exact ⟨q0, q1, qP, va_K.moved (u := U) (U := U.calling g mk a) (Vm.Alike.refl U.vm) qK, qD⟩, fun U hU hW => ⟨rfl, by rw [hU], by rw [hU]; exact hPc, va_K.moved hW.alike hKc, hDc.weaken (fun _ _ _ _ => trivial)⟩⟩ rfl rfl hl.1 rfl (lv_room (Nat.le_of_ble_eq_true rfl)) dX9_deposit_2 ⟨Nat.le_of_ble_eq_true rfl, Nat.le_of_ble_eq_true rfl⟩) hS (fun q _ h => hFc q h) hFc (fun r1 u2 t H1 locs ht hvm hw hB hz1 hk1 hS => ?_)
  obtain ⟨hP1, hK1, hD1⟩ := hB
  rw [ht] at hP1
  have hK1 := va_K.moved hvm.symm hK1
  try dsimp only at hw
  obtain ⟨hP, hD⟩ := va_join (wr := [(h0, .inr (8, [.int 0, .ref am, .ref ad, .ref ab, .int 0, .int 0, .ref ar, .int 0, .int 0, .int 2, .int 0, .int 0, .int 0, .ref az, .ref ae, .ref ao, .ref an, .ref au, .int 0, .int 0, .int 0, .ref ap, .ref aw, .int 0, .int 0, .int 0, .int 0, .int 0])), (am, .inl (tm, 512, .inl f))]) (w1 := []) hP hD [] [0, 1] rfl rfl (by decide) (by decide) hk1 hFc hP1 hD1
  have hK := (hK.sub (tys' := [(tm, .int)]) [0] rfl).app hK1
  generalize H1 = H at hP hS ⊢
  have hP : va_P (dC, dI) vwCl [(h0, .inr (8, [.int 0, .ref am, .ref ad, .ref ab, .int 0, .int 0, .ref ar, .int 0, .int 0, .int 2, .int 0, .int 0, .int 0, .ref az, .ref ae, .ref ao, .ref an, .ref au, .int 0, .int 0, .int 0, .ref ap, .ref aw, .int 0, .int 0, .int 0, .int 0, .int 0])), (am, .inl (tm, 512, .inl f))] H := hP
  have hD : va_D A [(h0, .inr (8, [.int 0, .ref am, .ref ad, .ref ab, .int 0, .int 0, .ref ar, .int 0, .int 0, .int 2, .int 0, .int 0, .int 0, .ref az, .ref ae, .ref ao, .ref an, .ref au, .int 0, .int 0, .int 0, .ref ap, .ref aw, .int 0, .int 0, .int 0, .int 0, .int 0])), (am, .inl (tm, 512, .inl f))] := hD
  have hK : va_K (dC, dI) vwCl [(tm, .int)] s := hK
  refine W.widen (k := 0) (n := 0) (Nat.le_of_ble_eq_true rfl) (Nat.le_of_ble_eq_true rfl) ?_
  obtain rfl := hw
  refine lv_if_eq (tgt := 19) hx hb dX9_deposit_5 (by decide) (fun c3 => ?_) (fun c3 => ?_)
  · exact absurd c3 (by decide)
  · skip
    refine lv_iload_n hx hb dX9_deposit_8 rfl (lv_at hl 2 rfl) ?_
    have hPc := hP.sub (ws' := []) [] rfl
    have hDc := hD.sub (ws' := []) [] (by decide) rfl
    have hKc := hK.sub (tys' := []) [] rfl
    have hFc := va_free (wc := []) hD hS hA [] rfl
    refine va_calli (va_runS (As := [.int 1]) (rest := [.ref h0]) ⟨hx, hb, hml, hown, hts⟩ (c_m_isWord1 l dC dI  H.size) (va_cwS 1 hts gX9_deposit_X9_isWord rfl rfl rfl (by decide +kernel) ⟨Nat.le_of_ble_eq_true rfl, Nat.le_of_ble_eq_true rfl⟩) ⟨fun a U g mk q => by obtain ⟨q0, q1, qP, qK, qD⟩ := q; exact ⟨q0, q1, qP, va_K.moved (u := U) (U := U.calling g mk a) (Vm.Alike.refl U.vm) qK, qD⟩, fun U hU hW => ⟨rfl, by rw [hU], by rw [hU]; exact hPc, va_K.moved hW.alike hKc, hDc.weaken (fun _ _ _ _ => trivial)⟩⟩ rfl rfl hl.1 rfl (lv_room (Nat.le_of_ble_eq_true rfl)) dX9_deposit_9 ⟨Nat.le_of_ble_eq_true rfl, Nat.le_of_ble_eq_true rfl⟩) hS (fun q _ h => hFc q h) hFc (fun r4 u5 t H1 locs ht hvm hw hB hz1 hk1 hS => ?_)
    obtain ⟨hP1, hK1, hD1⟩ := hB
    rw [ht] at hP1
    have hK1 := va_K.moved hvm.symm hK1
    try dsimp only at hw
    obtain ⟨hP, hD⟩ := va_join (wr := [(h0, .inr (8, [.int 0, .ref am, .ref ad, .ref ab, .int 0, .int 0, .ref ar, .int 0, .int 0, .int 2, .int 0, .int 0, .int 0, .ref az, .ref ae, .ref ao, .ref an, .ref au, .int 0, .int 0, .int 0, .ref ap, .ref aw, .int 0, .int 0, .int 0, .int 0, .int 0])), (am, .inl (tm, 512, .inl f))]) (w1 := []) hP hD [] [0, 1] rfl rfl (by decide) (by decide) hk1 hFc hP1 hD1
    have hK := (hK.sub (tys' := [(tm, .int)]) [0] rfl).app hK1
    generalize H1 = H at hP hS ⊢
    have hP : va_P (dC, dI) vwCl [(h0, .inr (8, [.int 0, .ref am, .ref ad, .ref ab, .int 0, .int 0, .ref ar, .int 0, .int 0, .int 2, .int 0, .int 0, .int 0, .ref az, .ref ae, .ref ao, .ref an, .ref au, .int 0, .int 0, .int 0, .ref ap, .ref aw, .int 0, .int 0, .int 0, .int 0, .int 0])), (am, .inl (tm, 512, .inl f))] H := hP
    have hD : va_D A [(h0, .inr (8, [.int 0, .ref am, .ref ad, .ref ab, .int 0, .int 0, .ref ar, .int 0, .int 0, .int 2, .int 0, .int 0, .int 0, .ref az, .ref ae, .ref ao, .ref an, .ref au, .int 0, .int 0, .int 0, .ref ap, .ref aw, .int 0, .int 0, .int 0, .int 0, .int 0])), (am, .inl (tm, 512, .inl f))] := hD
    have hK : va_K (dC, dI) vwCl [(tm, .int)] s := hK
    refine W.widen (k := 0) (n := 0) (Nat.le_of_ble_eq_true rfl) (Nat.le_of_ble_eq_true rfl) ?_
    obtain rfl := hw
    refine lv_if_eq (tgt := 19) hx hb dX9_deposit_12 (by decide) (fun c6 => ?_) (fun c6 => ?_)
    · exact absurd c6 (by decide)
    · skip
      refine lv_iconst (v := 0) hx hb dX9_deposit_15 (by decide) ?_
      refine lv_goto (tgt := 20) hx hb dX9_deposit_16 (by decide) ?_
      refine va_put (D := (dC, dI)) (ci := 8) (v := .int 0) (ty := .int) (C := RX9) (T := TX9) (N := 28) hx hb hts (by decide +kernel) tyX9 tyX9_ok nmX9 hown hK hP hD hS 0 rfl rfl 0 (by decide) (hts (.fieldLink RX9 48 "UnibusMachineModel" "thrown" "I") (by decide +kernel)) (fun _ h9 => h9) rfl (by decide +kernel) rfl rfl (Nat.le_of_ble_eq_true rfl) dX9_deposit_20 (fun H locs hP hD hS => ?_)
      have hP : va_P (dC, dI) vwCl [(h0, .inr (8, [.int 0, .ref am, .ref ad, .ref ab, .int 0, .int 0, .ref ar, .int 0, .int 0, .int 2, .int 0, .int 0, .int 0, .ref az, .ref ae, .ref ao, .ref an, .ref au, .int 0, .int 0, .int 0, .ref ap, .ref aw, .int 0, .int 0, .int 0, .int 0, .int 0])), (am, .inl (tm, 512, .inl f))] H := hP
      have hD : va_D A [(h0, .inr (8, [.int 0, .ref am, .ref ad, .ref ab, .int 0, .int 0, .ref ar, .int 0, .int 0, .int 2, .int 0, .int 0, .int 0, .ref az, .ref ae, .ref ao, .ref an, .ref au, .int 0, .int 0, .int 0, .ref ap, .ref aw, .int 0, .int 0, .int 0, .int 0, .int 0])), (am, .inl (tm, 512, .inl f))] := hD
      refine lv_aload_n hx hb dX9_deposit_23 rfl (lv_at hl 0 rfl) ?_
      refine va_get (D := (dC, dI)) (ci := 8) (v := .int 0) (C := RX9) (T := TX9) (N := 28) hx hb hts (by decide +kernel) hown hK hP 0 rfl rfl 0 (by decide) (hts (.fieldLink RX9 48 "UnibusMachineModel" "thrown" "I") (by decide +kernel)) (fun _ h9 => h9) rfl dX9_deposit_24 ?_
      refine lv_if_ne (tgt := 39) hx hb dX9_deposit_27 (by decide) (fun c7 => ?_) (fun c7 => ?_)
      · exact absurd c7 (by decide)
      · skip
        refine lv_aload_n hx hb dX9_deposit_30 rfl (lv_at hl 0 rfl) ?_
        refine va_get (D := (dC, dI)) (ci := 8) (v := .ref am) (C := RX9) (T := TX9) (N := 28) hx hb hts (by decide +kernel) hown hK hP 0 rfl rfl 1 (by decide) (hts (.fieldLink RX9 7 "UnibusMachineModel" "memory" "[I") (by decide +kernel)) (fun _ h9 => h9) rfl dX9_deposit_31 ?_
        refine lv_iload_n hx hb dX9_deposit_34 rfl (lv_at hl 1 rfl) ?_
        refine lv_iconst (v := 2) hx hb dX9_deposit_35 (by decide) ?_
        refine lv_idiv hx hb dX9_deposit_36 (by decide) ?_
        refine lv_topi (fun y8 ey8 => ?_)
        obtain rfl : y8 = 2 := by rw [ey8]; decide
        refine lv_iload_n hx hb dX9_deposit_37 rfl (lv_at hl 2 rfl) ?_
        refine va_iast (D := (dC, dI)) hx hb hK hP hD hS 1 0 rfl rfl (vp_in_iff.mpr (by decide)) dX9_deposit_38 (fun H locs hP hD hS => ?_)
        have hP : va_P (dC, dI) vwCl [(h0, .inr (8, [.int 0, .ref am, .ref ad, .ref ab, .int 0, .int 0, .ref ar, .int 0, .int 0, .int 2, .int 0, .int 0, .int 0, .ref az, .ref ae, .ref ao, .ref an, .ref au, .int 0, .int 0, .int 0, .ref ap, .ref aw, .int 0, .int 0, .int 0, .int 0, .int 0])), (am, .inl (tm, 512, .inl (upd f (2 : Int32).toNatClampNeg 1)))] H := hP
        have hD : va_D A [(h0, .inr (8, [.int 0, .ref am, .ref ad, .ref ab, .int 0, .int 0, .ref ar, .int 0, .int 0, .int 2, .int 0, .int 0, .int 0, .ref az, .ref ae, .ref ao, .ref an, .ref au, .int 0, .int 0, .int 0, .ref ap, .ref aw, .int 0, .int 0, .int 0, .int 0, .int 0])), (am, .inl (tm, 512, .inl (upd f (2 : Int32).toNatClampNeg 1)))] := hD
        obtain ⟨f9, hf9⟩ : ∃ z : Nat → Int32, z = upd f (2 : Int32).toNatClampNeg 1 := ⟨_, rfl⟩
        rw [← hf9] at hP hD
        have hf9_all : ∀ i : Nat, 0 ≤ (f9 i).toInt := by rw [hf9]; exact fz_all (by assumption) (by first | decide | omega | assumption)
        have hf9_2 : f9 (2 : Int32).toNatClampNeg = 1 := by rw [hf9, pk_us]
        have hP : va_P (dC, dI) vwCl [(h0, .inr (8, [.int 0, .ref am, .ref ad, .ref ab, .int 0, .int 0, .ref ar, .int 0, .int 0, .int 2, .int 0, .int 0, .int 0, .ref az, .ref ae, .ref ao, .ref an, .ref au, .int 0, .int 0, .int 0, .ref ap, .ref aw, .int 0, .int 0, .int 0, .int 0, .int 0])), (am, .inl (tm, 512, .inl f9))] H := hP
        have hD : va_D A [(h0, .inr (8, [.int 0, .ref am, .ref ad, .ref ab, .int 0, .int 0, .ref ar, .int 0, .int 0, .int 2, .int 0, .int 0, .int 0, .ref az, .ref ae, .ref ao, .ref an, .ref au, .int 0, .int 0, .int 0, .ref ap, .ref aw, .int 0, .int 0, .int 0, .int 0, .int 0])), (am, .inl (tm, 512, .inl f9))] := hD
        have hx10 : f9 (2 : Int32).toNatClampNeg = 1 := by first | assumption | omega
        have hx11 : ∀ i : Nat, 0 ≤ (f9 i).toInt := by first | assumption | omega
        have hP9 := hP.sub (ws' := [(h0, .inr (8, [.int 0, .ref am, .ref ad, .ref ab, .int 0, .int 0, .ref ar, .int 0, .int 0, .int 2, .int 0, .int 0, .int 0, .ref az, .ref ae, .ref ao, .ref an, .ref au, .int 0, .int 0, .int 0, .ref ap, .ref aw, .int 0, .int 0, .int 0, .int 0, .int 0])), (am, .inl (tm, 512, .inl f9))]) [0, 1] rfl
        have hD9 := hD.sub (ws' := [(h0, .inr (8, [.int 0, .ref am, .ref ad, .ref ab, .int 0, .int 0, .ref ar, .int 0, .int 0, .int 2, .int 0, .int 0, .int 0, .ref az, .ref ae, .ref ao, .ref an, .ref au, .int 0, .int 0, .int 0, .ref ap, .ref aw, .int 0, .int 0, .int 0, .int 0, .int 0])), (am, .inl (tm, 512, .inl f9))]) [0, 1] (by decide) rfl
        have hK9 := hK.sub (tys' := [(tm, .int)]) [0] rfl
        exact W.vret hx hb hr (fun t ht hW => ⟨⟨(f9), rfl, ⟨hx10, hx11⟩, by rw [ht]; exact hP9, va_K.moved hW.alike hK9, hD9⟩, hS.F ht⟩) hS.2.2 dX9_deposit_39
set_option maxHeartbeats 4000000 in
set_option maxRecDepth 100000 in
theorem c_m_deposit6 (l : Launch) (dC : Nat → ClassId) (dI : Nat → Nat → Nat) (h0 : Nat) (am : Nat) (ad : Nat) (ab : Nat) (ar : Nat) (az : Nat) (ae : Nat) (ao : Nat) (an : Nat) (au : Nat) (ap : Nat) (aw : Nat) (tm : ClassId) (f : Nat → Int32) (sz : Nat) (hF0 : f (2 : Int32).toNatClampNeg = 1) (hF1 : ∀ i : Nat, 0 ≤ (f i).toInt) : Met l yX9_deposit wsX9_deposit ({ frames := 1, cells := 0, slots := 0, locals := 20 } : Room) (va_Pc [.ref h0, .int 6, .int 224] (fun U => U.heap.size = sz ∧ va_P (dC, dI) vwCl [(h0, .inr (8, [.int 0, .ref am, .ref ad, .ref ab, .int 0, .int 0, .ref ar, .int 0, .int 0, .int 2, .int 0, .int 0, .int 0, .ref az, .ref ae, .ref ao, .ref an, .ref au, .int 0, .int 0, .int 0, .ref ap, .ref aw, .int 0, .int 0, .int 0, .int 0, .int 0])), (am, .inl (tm, 512, .inl f))] U.heap ∧ va_K (dC, dI) vwCl [(tm, .int)] U ∧ va_D (fun _ => True) [(h0, .inr (8, [.int 0, .ref am, .ref ad, .ref ab, .int 0, .int 0, .ref ar, .int 0, .int 0, .int 2, .int 0, .int 0, .int 0, .ref az, .ref ae, .ref ao, .ref an, .ref au, .int 0, .int 0, .int 0, .ref ap, .ref aw, .int 0, .int 0, .int 0, .int 0, .int 0])), (am, .inl (tm, 512, .inl f))])) (va_Qv (fun (u : (Nat → Int32)) => (u (2 : Int32).toNatClampNeg = 1) ∧ (u (3 : Int32).toNatClampNeg = 224) ∧ (∀ i : Nat, 0 ≤ (u i).toInt)) (fun (u : (Nat → Int32)) (t : State) => va_P (dC, dI) vwCl [(h0, .inr (8, [.int 0, .ref am, .ref ad, .ref ab, .int 0, .int 0, .ref ar, .int 0, .int 0, .int 2, .int 0, .int 0, .int 0, .ref az, .ref ae, .ref ao, .ref an, .ref au, .int 0, .int 0, .int 0, .ref ap, .ref aw, .int 0, .int 0, .int 0, .int 0, .int 0])), (am, .inl (tm, 512, .inl u))] t.heap ∧ va_K (dC, dI) vwCl [(tm, .int)] t ∧ va_D (va_A [(h0, .inr (8, [.int 0, .ref am, .ref ad, .ref ab, .int 0, .int 0, .ref ar, .int 0, .int 0, .int 2, .int 0, .int 0, .int 0, .ref az, .ref ae, .ref ao, .ref an, .ref au, .int 0, .int 0, .int 0, .ref ap, .ref aw, .int 0, .int 0, .int 0, .int 0, .int 0])), (am, .inl (tm, 512, .inl f))] sz) [(h0, .inr (8, [.int 0, .ref am, .ref ad, .ref ab, .int 0, .int 0, .ref ar, .int 0, .int 0, .int 2, .int 0, .int 0, .int 0, .ref az, .ref ae, .ref ao, .ref an, .ref au, .int 0, .int 0, .int 0, .ref ap, .ref aw, .int 0, .int 0, .int 0, .int 0, .int 0])), (am, .inl (tm, 512, .inl u))]) (va_A [(h0, .inr (8, [.int 0, .ref am, .ref ad, .ref ab, .int 0, .int 0, .ref ar, .int 0, .int 0, .int 2, .int 0, .int 0, .int 0, .ref az, .ref ae, .ref ao, .ref an, .ref au, .int 0, .int 0, .int 0, .ref ap, .ref aw, .int 0, .int 0, .int 0, .int 0, .int 0])), (am, .inl (tm, 512, .inl f))] sz)) 0 0 (va_A [(h0, .inr (8, [.int 0, .ref am, .ref ad, .ref ab, .int 0, .int 0, .ref ar, .int 0, .int 0, .int 2, .int 0, .int 0, .int 0, .ref az, .ref ae, .ref ao, .ref an, .ref au, .int 0, .int 0, .int 0, .ref ap, .ref aw, .int 0, .int 0, .int 0, .int 0, .int 0])), (am, .inl (tm, 512, .inl f))] sz) := by
  refine Met.ofW (cc := cX9_deposit) (maxL := 3) (ret := none) (by decide) rfl ?_
  intro p e s m args below meth c s₁ B hml hv
  obtain ⟨rfl, hsz, hP, hK, hD0⟩ := hv
  have hx := B.exec
  have hb := B.bytes
  have hr := B.returns
  have hts := atoms_spec (ws := wsX9_deposit) B.pre
  have hown : s.vm.findClass RX9 = some m.cls := findClass_of_methodNamed B.named
  have hlocks := B.notSynchronized
  have hD := hD0.self (sz := sz)
  generalize hAe : va_A [(h0, .inr (8, [.int 0, .ref am, .ref ad, .ref ab, .int 0, .int 0, .ref ar, .int 0, .int 0, .int 2, .int 0, .int 0, .int 0, .ref az, .ref ae, .ref ao, .ref an, .ref au, .int 0, .int 0, .int 0, .ref ap, .ref aw, .int 0, .int 0, .int 0, .int 0, .int 0])), (am, .inl (tm, 512, .inl f))] sz = A at hD ⊢
  have hA : ∀ q : Nat, s.heap.size ≤ q → A q := fun q h => by rw [← hAe]; exact Or.inr (by omega)
  have hS0 : ∀ G : Heap, s.heap = G → va_S A s.heap G [] := fun G h => by subst h; exact va_S.rf
  generalize hHe : s.heap = H at hP ⊢
  have hS := hS0 H hHe
  have hP : va_P (dC, dI) vwCl [(h0, .inr (8, [.int 0, .ref am, .ref ad, .ref ab, .int 0, .int 0, .ref ar, .int 0, .int 0, .int 2, .int 0, .int 0, .int 0, .ref az, .ref ae, .ref ao, .ref an, .ref au, .int 0, .int 0, .int 0, .ref ap, .ref aw, .int 0, .int 0, .int 0, .int 0, .int 0])), (am, .inl (tm, 512, .inl f))] H := hP
  have hD : va_D A [(h0, .inr (8, [.int 0, .ref am, .ref ad, .ref ab, .int 0, .int 0, .ref ar, .int 0, .int 0, .int 2, .int 0, .int 0, .int 0, .ref az, .ref ae, .ref ao, .ref an, .ref au, .int 0, .int 0, .int 0, .ref ap, .ref aw, .int 0, .int 0, .int 0, .int 0, .int 0])), (am, .inl (tm, 512, .inl f))] := hD
  have hK : va_K (dC, dI) vwCl [(tm, .int)] s := hK
  have hl := lv_entry ([.ref h0, .int 6, .int 224]) (n := 3) (Nat.le_of_ble_eq_true rfl)
  rw [lg_entry_eq]
  generalize (lg_sl ([.ref h0, .int 6, .int 224]) ++ List.replicate (3 - (lg_sl ([.ref h0, .int 6, .int 224])).length) Slot.unset).toArray = ls at hl ⊢
  have hl : lv_has ls 3 [(0, .ref h0), (1, .int 6), (2, .int 224)] := hl
  refine lv_aload_n hx hb dX9_deposit_0 rfl (lv_at hl 0 rfl) ?_
  refine lv_iload_n hx hb dX9_deposit_1 rfl (lv_at hl 1 rfl) ?_
  have hPc := hP.sub (ws' := []) [] rfl
  have hDc := hD.sub (ws' := []) [] (by decide) rfl
  have hKc := hK.sub (tys' := []) [] rfl
  have hFc := va_free (wc := []) hD hS hA [] rfl
  refine va_calli (va_runS (As := [.int 6]) (rest := [.ref h0]) ⟨hx, hb, hml, hown, hts⟩ (c_m_cell6 l dC dI  H.size) (va_cwS 1 hts gX9_deposit_X9_cell rfl rfl rfl (by decide +kernel) ⟨Nat.le_of_ble_eq_true rfl, Nat.le_of_ble_eq_true rfl⟩) ⟨fun a U g mk q => by obtain ⟨q0, q1, qP, qK, qD⟩ := q; exact ⟨q0, q1, qP, va_K.moved (u := U) (U := U.calling g mk a) (Vm.Alike.refl U.vm) qK, qD⟩, fun U hU hW => ⟨rfl, by rw [hU], by rw [hU]; exact hPc, va_K.moved hW.alike hKc, hDc.weaken (fun _ _ _ _ => trivial)⟩⟩ rfl rfl hl.1 rfl (lv_room (Nat.le_of_ble_eq_true rfl)) dX9_deposit_2 ⟨Nat.le_of_ble_eq_true rfl, Nat.le_of_ble_eq_true rfl⟩) hS (fun q _ h => hFc q h) hFc (fun r1 u2 t H1 locs ht hvm hw hB hz1 hk1 hS => ?_)
  obtain ⟨hP1, hK1, hD1⟩ := hB
  rw [ht] at hP1
  have hK1 := va_K.moved hvm.symm hK1
  try dsimp only at hw
  obtain ⟨hP, hD⟩ := va_join (wr := [(h0, .inr (8, [.int 0, .ref am, .ref ad, .ref ab, .int 0, .int 0, .ref ar, .int 0, .int 0, .int 2, .int 0, .int 0, .int 0, .ref az, .ref ae, .ref ao, .ref an, .ref au, .int 0, .int 0, .int 0, .ref ap, .ref aw, .int 0, .int 0, .int 0, .int 0, .int 0])), (am, .inl (tm, 512, .inl f))]) (w1 := []) hP hD [] [0, 1] rfl rfl (by decide) (by decide) hk1 hFc hP1 hD1
  have hK := (hK.sub (tys' := [(tm, .int)]) [0] rfl).app hK1
  generalize H1 = H at hP hS ⊢
  have hP : va_P (dC, dI) vwCl [(h0, .inr (8, [.int 0, .ref am, .ref ad, .ref ab, .int 0, .int 0, .ref ar, .int 0, .int 0, .int 2, .int 0, .int 0, .int 0, .ref az, .ref ae, .ref ao, .ref an, .ref au, .int 0, .int 0, .int 0, .ref ap, .ref aw, .int 0, .int 0, .int 0, .int 0, .int 0])), (am, .inl (tm, 512, .inl f))] H := hP
  have hD : va_D A [(h0, .inr (8, [.int 0, .ref am, .ref ad, .ref ab, .int 0, .int 0, .ref ar, .int 0, .int 0, .int 2, .int 0, .int 0, .int 0, .ref az, .ref ae, .ref ao, .ref an, .ref au, .int 0, .int 0, .int 0, .ref ap, .ref aw, .int 0, .int 0, .int 0, .int 0, .int 0])), (am, .inl (tm, 512, .inl f))] := hD
  have hK : va_K (dC, dI) vwCl [(tm, .int)] s := hK
  refine W.widen (k := 0) (n := 0) (Nat.le_of_ble_eq_true rfl) (Nat.le_of_ble_eq_true rfl) ?_
  obtain rfl := hw
  refine lv_if_eq (tgt := 19) hx hb dX9_deposit_5 (by decide) (fun c3 => ?_) (fun c3 => ?_)
  · exact absurd c3 (by decide)
  · skip
    refine lv_iload_n hx hb dX9_deposit_8 rfl (lv_at hl 2 rfl) ?_
    have hPc := hP.sub (ws' := []) [] rfl
    have hDc := hD.sub (ws' := []) [] (by decide) rfl
    have hKc := hK.sub (tys' := []) [] rfl
    have hFc := va_free (wc := []) hD hS hA [] rfl
    refine va_calli (va_runS (As := [.int 224]) (rest := [.ref h0]) ⟨hx, hb, hml, hown, hts⟩ (c_m_isWord224 l dC dI  H.size) (va_cwS 1 hts gX9_deposit_X9_isWord rfl rfl rfl (by decide +kernel) ⟨Nat.le_of_ble_eq_true rfl, Nat.le_of_ble_eq_true rfl⟩) ⟨fun a U g mk q => by obtain ⟨q0, q1, qP, qK, qD⟩ := q; exact ⟨q0, q1, qP, va_K.moved (u := U) (U := U.calling g mk a) (Vm.Alike.refl U.vm) qK, qD⟩, fun U hU hW => ⟨rfl, by rw [hU], by rw [hU]; exact hPc, va_K.moved hW.alike hKc, hDc.weaken (fun _ _ _ _ => trivial)⟩⟩ rfl rfl hl.1 rfl (lv_room (Nat.le_of_ble_eq_true rfl)) dX9_deposit_9 ⟨Nat.le_of_ble_eq_true rfl, Nat.le_of_ble_eq_true rfl⟩) hS (fun q _ h => hFc q h) hFc (fun r4 u5 t H1 locs ht hvm hw hB hz1 hk1 hS => ?_)
    obtain ⟨hP1, hK1, hD1⟩ := hB
    rw [ht] at hP1
    have hK1 := va_K.moved hvm.symm hK1
    try dsimp only at hw
    obtain ⟨hP, hD⟩ := va_join (wr := [(h0, .inr (8, [.int 0, .ref am, .ref ad, .ref ab, .int 0, .int 0, .ref ar, .int 0, .int 0, .int 2, .int 0, .int 0, .int 0, .ref az, .ref ae, .ref ao, .ref an, .ref au, .int 0, .int 0, .int 0, .ref ap, .ref aw, .int 0, .int 0, .int 0, .int 0, .int 0])), (am, .inl (tm, 512, .inl f))]) (w1 := []) hP hD [] [0, 1] rfl rfl (by decide) (by decide) hk1 hFc hP1 hD1
    have hK := (hK.sub (tys' := [(tm, .int)]) [0] rfl).app hK1
    generalize H1 = H at hP hS ⊢
    have hP : va_P (dC, dI) vwCl [(h0, .inr (8, [.int 0, .ref am, .ref ad, .ref ab, .int 0, .int 0, .ref ar, .int 0, .int 0, .int 2, .int 0, .int 0, .int 0, .ref az, .ref ae, .ref ao, .ref an, .ref au, .int 0, .int 0, .int 0, .ref ap, .ref aw, .int 0, .int 0, .int 0, .int 0, .int 0])), (am, .inl (tm, 512, .inl f))] H := hP
    have hD : va_D A [(h0, .inr (8, [.int 0, .ref am, .ref ad, .ref ab, .int 0, .int 0, .ref ar, .int 0, .int 0, .int 2, .int 0, .int 0, .int 0, .ref az, .ref ae, .ref ao, .ref an, .ref au, .int 0, .int 0, .int 0, .ref ap, .ref aw, .int 0, .int 0, .int 0, .int 0, .int 0])), (am, .inl (tm, 512, .inl f))] := hD
    have hK : va_K (dC, dI) vwCl [(tm, .int)] s := hK
    refine W.widen (k := 0) (n := 0) (Nat.le_of_ble_eq_true rfl) (Nat.le_of_ble_eq_true rfl) ?_
    obtain rfl := hw
    refine lv_if_eq (tgt := 19) hx hb dX9_deposit_12 (by decide) (fun c6 => ?_) (fun c6 => ?_)
    · exact absurd c6 (by decide)
    · skip
      refine lv_iconst (v := 0) hx hb dX9_deposit_15 (by decide) ?_
      refine lv_goto (tgt := 20) hx hb dX9_deposit_16 (by decide) ?_
      refine va_put (D := (dC, dI)) (ci := 8) (v := .int 0) (ty := .int) (C := RX9) (T := TX9) (N := 28) hx hb hts (by decide +kernel) tyX9 tyX9_ok nmX9 hown hK hP hD hS 0 rfl rfl 0 (by decide) (hts (.fieldLink RX9 48 "UnibusMachineModel" "thrown" "I") (by decide +kernel)) (fun _ h9 => h9) rfl (by decide +kernel) rfl rfl (Nat.le_of_ble_eq_true rfl) dX9_deposit_20 (fun H locs hP hD hS => ?_)
      have hP : va_P (dC, dI) vwCl [(h0, .inr (8, [.int 0, .ref am, .ref ad, .ref ab, .int 0, .int 0, .ref ar, .int 0, .int 0, .int 2, .int 0, .int 0, .int 0, .ref az, .ref ae, .ref ao, .ref an, .ref au, .int 0, .int 0, .int 0, .ref ap, .ref aw, .int 0, .int 0, .int 0, .int 0, .int 0])), (am, .inl (tm, 512, .inl f))] H := hP
      have hD : va_D A [(h0, .inr (8, [.int 0, .ref am, .ref ad, .ref ab, .int 0, .int 0, .ref ar, .int 0, .int 0, .int 2, .int 0, .int 0, .int 0, .ref az, .ref ae, .ref ao, .ref an, .ref au, .int 0, .int 0, .int 0, .ref ap, .ref aw, .int 0, .int 0, .int 0, .int 0, .int 0])), (am, .inl (tm, 512, .inl f))] := hD
      refine lv_aload_n hx hb dX9_deposit_23 rfl (lv_at hl 0 rfl) ?_
      refine va_get (D := (dC, dI)) (ci := 8) (v := .int 0) (C := RX9) (T := TX9) (N := 28) hx hb hts (by decide +kernel) hown hK hP 0 rfl rfl 0 (by decide) (hts (.fieldLink RX9 48 "UnibusMachineModel" "thrown" "I") (by decide +kernel)) (fun _ h9 => h9) rfl dX9_deposit_24 ?_
      refine lv_if_ne (tgt := 39) hx hb dX9_deposit_27 (by decide) (fun c7 => ?_) (fun c7 => ?_)
      · exact absurd c7 (by decide)
      · skip
        refine lv_aload_n hx hb dX9_deposit_30 rfl (lv_at hl 0 rfl) ?_
        refine va_get (D := (dC, dI)) (ci := 8) (v := .ref am) (C := RX9) (T := TX9) (N := 28) hx hb hts (by decide +kernel) hown hK hP 0 rfl rfl 1 (by decide) (hts (.fieldLink RX9 7 "UnibusMachineModel" "memory" "[I") (by decide +kernel)) (fun _ h9 => h9) rfl dX9_deposit_31 ?_
        refine lv_iload_n hx hb dX9_deposit_34 rfl (lv_at hl 1 rfl) ?_
        refine lv_iconst (v := 2) hx hb dX9_deposit_35 (by decide) ?_
        refine lv_idiv hx hb dX9_deposit_36 (by decide) ?_
        refine lv_topi (fun y8 ey8 => ?_)
        obtain rfl : y8 = 3 := by rw [ey8]; decide
        refine lv_iload_n hx hb dX9_deposit_37 rfl (lv_at hl 2 rfl) ?_
        refine va_iast (D := (dC, dI)) hx hb hK hP hD hS 1 0 rfl rfl (vp_in_iff.mpr (by decide)) dX9_deposit_38 (fun H locs hP hD hS => ?_)
        have hP : va_P (dC, dI) vwCl [(h0, .inr (8, [.int 0, .ref am, .ref ad, .ref ab, .int 0, .int 0, .ref ar, .int 0, .int 0, .int 2, .int 0, .int 0, .int 0, .ref az, .ref ae, .ref ao, .ref an, .ref au, .int 0, .int 0, .int 0, .ref ap, .ref aw, .int 0, .int 0, .int 0, .int 0, .int 0])), (am, .inl (tm, 512, .inl (upd f (3 : Int32).toNatClampNeg 224)))] H := hP
        have hD : va_D A [(h0, .inr (8, [.int 0, .ref am, .ref ad, .ref ab, .int 0, .int 0, .ref ar, .int 0, .int 0, .int 2, .int 0, .int 0, .int 0, .ref az, .ref ae, .ref ao, .ref an, .ref au, .int 0, .int 0, .int 0, .ref ap, .ref aw, .int 0, .int 0, .int 0, .int 0, .int 0])), (am, .inl (tm, 512, .inl (upd f (3 : Int32).toNatClampNeg 224)))] := hD
        obtain ⟨f9, hf9⟩ : ∃ z : Nat → Int32, z = upd f (3 : Int32).toNatClampNeg 224 := ⟨_, rfl⟩
        rw [← hf9] at hP hD
        have hf9_2 : f9 (2 : Int32).toNatClampNeg = 1 := by rw [hf9, pk_un (by decide)]; assumption
        have hf9_all : ∀ i : Nat, 0 ≤ (f9 i).toInt := by rw [hf9]; exact fz_all (by assumption) (by first | decide | omega | assumption)
        have hf9_3 : f9 (3 : Int32).toNatClampNeg = 224 := by rw [hf9, pk_us]
        have hP : va_P (dC, dI) vwCl [(h0, .inr (8, [.int 0, .ref am, .ref ad, .ref ab, .int 0, .int 0, .ref ar, .int 0, .int 0, .int 2, .int 0, .int 0, .int 0, .ref az, .ref ae, .ref ao, .ref an, .ref au, .int 0, .int 0, .int 0, .ref ap, .ref aw, .int 0, .int 0, .int 0, .int 0, .int 0])), (am, .inl (tm, 512, .inl f9))] H := hP
        have hD : va_D A [(h0, .inr (8, [.int 0, .ref am, .ref ad, .ref ab, .int 0, .int 0, .ref ar, .int 0, .int 0, .int 2, .int 0, .int 0, .int 0, .ref az, .ref ae, .ref ao, .ref an, .ref au, .int 0, .int 0, .int 0, .ref ap, .ref aw, .int 0, .int 0, .int 0, .int 0, .int 0])), (am, .inl (tm, 512, .inl f9))] := hD
        have hx10 : f9 (2 : Int32).toNatClampNeg = 1 := by first | assumption | omega
        have hx11 : f9 (3 : Int32).toNatClampNeg = 224 := by first | assumption | omega
        have hx12 : ∀ i : Nat, 0 ≤ (f9 i).toInt := by first | assumption | omega
        have hP9 := hP.sub (ws' := [(h0, .inr (8, [.int 0, .ref am, .ref ad, .ref ab, .int 0, .int 0, .ref ar, .int 0, .int 0, .int 2, .int 0, .int 0, .int 0, .ref az, .ref ae, .ref ao, .ref an, .ref au, .int 0, .int 0, .int 0, .ref ap, .ref aw, .int 0, .int 0, .int 0, .int 0, .int 0])), (am, .inl (tm, 512, .inl f9))]) [0, 1] rfl
        have hD9 := hD.sub (ws' := [(h0, .inr (8, [.int 0, .ref am, .ref ad, .ref ab, .int 0, .int 0, .ref ar, .int 0, .int 0, .int 2, .int 0, .int 0, .int 0, .ref az, .ref ae, .ref ao, .ref an, .ref au, .int 0, .int 0, .int 0, .ref ap, .ref aw, .int 0, .int 0, .int 0, .int 0, .int 0])), (am, .inl (tm, 512, .inl f9))]) [0, 1] (by decide) rfl
        have hK9 := hK.sub (tys' := [(tm, .int)]) [0] rfl
        exact W.vret hx hb hr (fun t ht hW => ⟨⟨(f9), rfl, ⟨hx10, hx11, hx12⟩, by rw [ht]; exact hP9, va_K.moved hW.alike hK9, hD9⟩, hS.F ht⟩) hS.2.2 dX9_deposit_39
set_option maxHeartbeats 4000000 in
set_option maxRecDepth 100000 in
theorem c_m_set (l : Launch) (dC : Nat → ClassId) (dI : Nat → Nat → Nat) (h0 : Nat) (am : Nat) (ad : Nat) (ab : Nat) (ar : Nat) (az : Nat) (ae : Nat) (ao : Nat) (an : Nat) (au : Nat) (ap : Nat) (aw : Nat) (tr : ClassId) (g : Nat → Int32) (sz : Nat) : Met l yX9_set wsX9_set ({ frames := 1, cells := 0, slots := 0, locals := 21 } : Room) (va_Pc [.ref h0, .int 6, .int 1024] (fun U => U.heap.size = sz ∧ va_P (dC, dI) vwCl [(h0, .inr (8, [.int 0, .ref am, .ref ad, .ref ab, .int 0, .int 0, .ref ar, .int 0, .int 0, .int 2, .int 0, .int 0, .int 0, .ref az, .ref ae, .ref ao, .ref an, .ref au, .int 0, .int 0, .int 0, .ref ap, .ref aw, .int 0, .int 0, .int 0, .int 0, .int 0])), (ar, .inl (tr, 8, .inl g))] U.heap ∧ va_K (dC, dI) vwCl [(tr, .int)] U ∧ va_D (fun _ => True) [(h0, .inr (8, [.int 0, .ref am, .ref ad, .ref ab, .int 0, .int 0, .ref ar, .int 0, .int 0, .int 2, .int 0, .int 0, .int 0, .ref az, .ref ae, .ref ao, .ref an, .ref au, .int 0, .int 0, .int 0, .ref ap, .ref aw, .int 0, .int 0, .int 0, .int 0, .int 0])), (ar, .inl (tr, 8, .inl g))])) (va_Qv (fun (u : (Nat → Int32)) => (u (6 : Int32).toNatClampNeg = 1024)) (fun (u : (Nat → Int32)) (t : State) => va_P (dC, dI) vwCl [(h0, .inr (8, [.int 0, .ref am, .ref ad, .ref ab, .int 0, .int 0, .ref ar, .int 0, .int 0, .int 2, .int 0, .int 0, .int 0, .ref az, .ref ae, .ref ao, .ref an, .ref au, .int 0, .int 0, .int 0, .ref ap, .ref aw, .int 0, .int 0, .int 0, .int 0, .int 0])), (ar, .inl (tr, 8, .inl u))] t.heap ∧ va_K (dC, dI) vwCl [(tr, .int)] t ∧ va_D (va_A [(h0, .inr (8, [.int 0, .ref am, .ref ad, .ref ab, .int 0, .int 0, .ref ar, .int 0, .int 0, .int 2, .int 0, .int 0, .int 0, .ref az, .ref ae, .ref ao, .ref an, .ref au, .int 0, .int 0, .int 0, .ref ap, .ref aw, .int 0, .int 0, .int 0, .int 0, .int 0])), (ar, .inl (tr, 8, .inl g))] sz) [(h0, .inr (8, [.int 0, .ref am, .ref ad, .ref ab, .int 0, .int 0, .ref ar, .int 0, .int 0, .int 2, .int 0, .int 0, .int 0, .ref az, .ref ae, .ref ao, .ref an, .ref au, .int 0, .int 0, .int 0, .ref ap, .ref aw, .int 0, .int 0, .int 0, .int 0, .int 0])), (ar, .inl (tr, 8, .inl u))]) (va_A [(h0, .inr (8, [.int 0, .ref am, .ref ad, .ref ab, .int 0, .int 0, .ref ar, .int 0, .int 0, .int 2, .int 0, .int 0, .int 0, .ref az, .ref ae, .ref ao, .ref an, .ref au, .int 0, .int 0, .int 0, .ref ap, .ref aw, .int 0, .int 0, .int 0, .int 0, .int 0])), (ar, .inl (tr, 8, .inl g))] sz)) 0 0 (va_A [(h0, .inr (8, [.int 0, .ref am, .ref ad, .ref ab, .int 0, .int 0, .ref ar, .int 0, .int 0, .int 2, .int 0, .int 0, .int 0, .ref az, .ref ae, .ref ao, .ref an, .ref au, .int 0, .int 0, .int 0, .ref ap, .ref aw, .int 0, .int 0, .int 0, .int 0, .int 0])), (ar, .inl (tr, 8, .inl g))] sz) := by
  refine Met.ofW (cc := cX9_set) (maxL := 3) (ret := none) (by decide) rfl ?_
  intro p e s m args below meth c s₁ B hml hv
  obtain ⟨rfl, hsz, hP, hK, hD0⟩ := hv
  have hx := B.exec
  have hb := B.bytes
  have hr := B.returns
  have hts := atoms_spec (ws := wsX9_set) B.pre
  have hown : s.vm.findClass RX9 = some m.cls := findClass_of_methodNamed B.named
  have hlocks := B.notSynchronized
  have hD := hD0.self (sz := sz)
  generalize hAe : va_A [(h0, .inr (8, [.int 0, .ref am, .ref ad, .ref ab, .int 0, .int 0, .ref ar, .int 0, .int 0, .int 2, .int 0, .int 0, .int 0, .ref az, .ref ae, .ref ao, .ref an, .ref au, .int 0, .int 0, .int 0, .ref ap, .ref aw, .int 0, .int 0, .int 0, .int 0, .int 0])), (ar, .inl (tr, 8, .inl g))] sz = A at hD ⊢
  have hA : ∀ q : Nat, s.heap.size ≤ q → A q := fun q h => by rw [← hAe]; exact Or.inr (by omega)
  have hS0 : ∀ G : Heap, s.heap = G → va_S A s.heap G [] := fun G h => by subst h; exact va_S.rf
  generalize hHe : s.heap = H at hP ⊢
  have hS := hS0 H hHe
  have hP : va_P (dC, dI) vwCl [(h0, .inr (8, [.int 0, .ref am, .ref ad, .ref ab, .int 0, .int 0, .ref ar, .int 0, .int 0, .int 2, .int 0, .int 0, .int 0, .ref az, .ref ae, .ref ao, .ref an, .ref au, .int 0, .int 0, .int 0, .ref ap, .ref aw, .int 0, .int 0, .int 0, .int 0, .int 0])), (ar, .inl (tr, 8, .inl g))] H := hP
  have hD : va_D A [(h0, .inr (8, [.int 0, .ref am, .ref ad, .ref ab, .int 0, .int 0, .ref ar, .int 0, .int 0, .int 2, .int 0, .int 0, .int 0, .ref az, .ref ae, .ref ao, .ref an, .ref au, .int 0, .int 0, .int 0, .ref ap, .ref aw, .int 0, .int 0, .int 0, .int 0, .int 0])), (ar, .inl (tr, 8, .inl g))] := hD
  have hK : va_K (dC, dI) vwCl [(tr, .int)] s := hK
  have hl := lv_entry ([.ref h0, .int 6, .int 1024]) (n := 3) (Nat.le_of_ble_eq_true rfl)
  rw [lg_entry_eq]
  generalize (lg_sl ([.ref h0, .int 6, .int 1024]) ++ List.replicate (3 - (lg_sl ([.ref h0, .int 6, .int 1024])).length) Slot.unset).toArray = ls at hl ⊢
  have hl : lv_has ls 3 [(0, .ref h0), (1, .int 6), (2, .int 1024)] := hl
  refine lv_aload_n hx hb dX9_set_0 rfl (lv_at hl 0 rfl) ?_
  refine lv_iload_n hx hb dX9_set_1 rfl (lv_at hl 1 rfl) ?_
  refine lv_bipush (v := 8) hx hb dX9_set_2 (by decide) ?_
  have hPc := hP.sub (ws' := []) [] rfl
  have hDc := hD.sub (ws' := []) [] (by decide) rfl
  have hKc := hK.sub (tys' := []) [] rfl
  have hFc := va_free (wc := []) hD hS hA [] rfl
  refine va_calli (va_runS (As := [.int 6, .int 8]) (rest := [.ref h0]) ⟨hx, hb, hml, hown, hts⟩ (c_m_out l dC dI  H.size) (va_cwS 2 hts gX9_set_X9_out rfl rfl rfl (by decide +kernel) ⟨Nat.le_of_ble_eq_true rfl, Nat.le_of_ble_eq_true rfl⟩) ⟨fun a U g mk q => by obtain ⟨q0, q1, qP, qK, qD⟩ := q; exact ⟨q0, q1, qP, va_K.moved (u := U) (U := U.calling g mk a) (Vm.Alike.refl U.vm) qK, qD⟩, fun U hU hW => ⟨rfl, by rw [hU], by rw [hU]; exact hPc, va_K.moved hW.alike hKc, hDc.weaken (fun _ _ _ _ => trivial)⟩⟩ rfl rfl hl.1 rfl (lv_room (Nat.le_of_ble_eq_true rfl)) dX9_set_4 ⟨Nat.le_of_ble_eq_true rfl, Nat.le_of_ble_eq_true rfl⟩) hS (fun q _ h => hFc q h) hFc (fun r1 u2 t H1 locs ht hvm hw hB hz1 hk1 hS => ?_)
  obtain ⟨hP1, hK1, hD1⟩ := hB
  rw [ht] at hP1
  have hK1 := va_K.moved hvm.symm hK1
  try dsimp only at hw
  obtain ⟨hP, hD⟩ := va_join (wr := [(h0, .inr (8, [.int 0, .ref am, .ref ad, .ref ab, .int 0, .int 0, .ref ar, .int 0, .int 0, .int 2, .int 0, .int 0, .int 0, .ref az, .ref ae, .ref ao, .ref an, .ref au, .int 0, .int 0, .int 0, .ref ap, .ref aw, .int 0, .int 0, .int 0, .int 0, .int 0])), (ar, .inl (tr, 8, .inl g))]) (w1 := []) hP hD [] [0, 1] rfl rfl (by decide) (by decide) hk1 hFc hP1 hD1
  have hK := (hK.sub (tys' := [(tr, .int)]) [0] rfl).app hK1
  generalize H1 = H at hP hS ⊢
  have hP : va_P (dC, dI) vwCl [(h0, .inr (8, [.int 0, .ref am, .ref ad, .ref ab, .int 0, .int 0, .ref ar, .int 0, .int 0, .int 2, .int 0, .int 0, .int 0, .ref az, .ref ae, .ref ao, .ref an, .ref au, .int 0, .int 0, .int 0, .ref ap, .ref aw, .int 0, .int 0, .int 0, .int 0, .int 0])), (ar, .inl (tr, 8, .inl g))] H := hP
  have hD : va_D A [(h0, .inr (8, [.int 0, .ref am, .ref ad, .ref ab, .int 0, .int 0, .ref ar, .int 0, .int 0, .int 2, .int 0, .int 0, .int 0, .ref az, .ref ae, .ref ao, .ref an, .ref au, .int 0, .int 0, .int 0, .ref ap, .ref aw, .int 0, .int 0, .int 0, .int 0, .int 0])), (ar, .inl (tr, 8, .inl g))] := hD
  have hK : va_K (dC, dI) vwCl [(tr, .int)] s := hK
  refine W.widen (k := 0) (n := 0) (Nat.le_of_ble_eq_true rfl) (Nat.le_of_ble_eq_true rfl) ?_
  obtain rfl := hw
  refine lv_if_ne (tgt := 17) hx hb dX9_set_7 (by decide) (fun c3 => ?_) (fun c3 => ?_)
  · exact absurd c3 (by decide)
  · skip
    refine lv_iload_n hx hb dX9_set_10 rfl (lv_at hl 2 rfl) ?_
    have hPc := hP.sub (ws' := []) [] rfl
    have hDc := hD.sub (ws' := []) [] (by decide) rfl
    have hKc := hK.sub (tys' := []) [] rfl
    have hFc := va_free (wc := []) hD hS hA [] rfl
    refine va_calli (va_runS (As := [.int 1024]) (rest := [.ref h0]) ⟨hx, hb, hml, hown, hts⟩ (c_m_isWord1024 l dC dI  H.size) (va_cwS 1 hts gX9_set_X9_isWord rfl rfl rfl (by decide +kernel) ⟨Nat.le_of_ble_eq_true rfl, Nat.le_of_ble_eq_true rfl⟩) ⟨fun a U g mk q => by obtain ⟨q0, q1, qP, qK, qD⟩ := q; exact ⟨q0, q1, qP, va_K.moved (u := U) (U := U.calling g mk a) (Vm.Alike.refl U.vm) qK, qD⟩, fun U hU hW => ⟨rfl, by rw [hU], by rw [hU]; exact hPc, va_K.moved hW.alike hKc, hDc.weaken (fun _ _ _ _ => trivial)⟩⟩ rfl rfl hl.1 rfl (lv_room (Nat.le_of_ble_eq_true rfl)) dX9_set_11 ⟨Nat.le_of_ble_eq_true rfl, Nat.le_of_ble_eq_true rfl⟩) hS (fun q _ h => hFc q h) hFc (fun r4 u5 t H1 locs ht hvm hw hB hz1 hk1 hS => ?_)
    obtain ⟨hP1, hK1, hD1⟩ := hB
    rw [ht] at hP1
    have hK1 := va_K.moved hvm.symm hK1
    try dsimp only at hw
    obtain ⟨hP, hD⟩ := va_join (wr := [(h0, .inr (8, [.int 0, .ref am, .ref ad, .ref ab, .int 0, .int 0, .ref ar, .int 0, .int 0, .int 2, .int 0, .int 0, .int 0, .ref az, .ref ae, .ref ao, .ref an, .ref au, .int 0, .int 0, .int 0, .ref ap, .ref aw, .int 0, .int 0, .int 0, .int 0, .int 0])), (ar, .inl (tr, 8, .inl g))]) (w1 := []) hP hD [] [0, 1] rfl rfl (by decide) (by decide) hk1 hFc hP1 hD1
    have hK := (hK.sub (tys' := [(tr, .int)]) [0] rfl).app hK1
    generalize H1 = H at hP hS ⊢
    have hP : va_P (dC, dI) vwCl [(h0, .inr (8, [.int 0, .ref am, .ref ad, .ref ab, .int 0, .int 0, .ref ar, .int 0, .int 0, .int 2, .int 0, .int 0, .int 0, .ref az, .ref ae, .ref ao, .ref an, .ref au, .int 0, .int 0, .int 0, .ref ap, .ref aw, .int 0, .int 0, .int 0, .int 0, .int 0])), (ar, .inl (tr, 8, .inl g))] H := hP
    have hD : va_D A [(h0, .inr (8, [.int 0, .ref am, .ref ad, .ref ab, .int 0, .int 0, .ref ar, .int 0, .int 0, .int 2, .int 0, .int 0, .int 0, .ref az, .ref ae, .ref ao, .ref an, .ref au, .int 0, .int 0, .int 0, .ref ap, .ref aw, .int 0, .int 0, .int 0, .int 0, .int 0])), (ar, .inl (tr, 8, .inl g))] := hD
    have hK : va_K (dC, dI) vwCl [(tr, .int)] s := hK
    refine W.widen (k := 0) (n := 0) (Nat.le_of_ble_eq_true rfl) (Nat.le_of_ble_eq_true rfl) ?_
    obtain rfl := hw
    refine lv_if_ne (tgt := 21) hx hb dX9_set_14 (by decide) (fun c6 => ?_) (fun c6 => ?_)
    · skip
      refine lv_iconst (v := 0) hx hb dX9_set_21 (by decide) ?_
      refine va_put (D := (dC, dI)) (ci := 8) (v := .int 0) (ty := .int) (C := RX9) (T := TX9) (N := 28) hx hb hts (by decide +kernel) tyX9 tyX9_ok nmX9 hown hK hP hD hS 0 rfl rfl 0 (by decide) (hts (.fieldLink RX9 48 "UnibusMachineModel" "thrown" "I") (by decide +kernel)) (fun _ h9 => h9) rfl (by decide +kernel) rfl rfl (Nat.le_of_ble_eq_true rfl) dX9_set_22 (fun H locs hP hD hS => ?_)
      have hP : va_P (dC, dI) vwCl [(h0, .inr (8, [.int 0, .ref am, .ref ad, .ref ab, .int 0, .int 0, .ref ar, .int 0, .int 0, .int 2, .int 0, .int 0, .int 0, .ref az, .ref ae, .ref ao, .ref an, .ref au, .int 0, .int 0, .int 0, .ref ap, .ref aw, .int 0, .int 0, .int 0, .int 0, .int 0])), (ar, .inl (tr, 8, .inl g))] H := hP
      have hD : va_D A [(h0, .inr (8, [.int 0, .ref am, .ref ad, .ref ab, .int 0, .int 0, .ref ar, .int 0, .int 0, .int 2, .int 0, .int 0, .int 0, .ref az, .ref ae, .ref ao, .ref an, .ref au, .int 0, .int 0, .int 0, .ref ap, .ref aw, .int 0, .int 0, .int 0, .int 0, .int 0])), (ar, .inl (tr, 8, .inl g))] := hD
      refine lv_aload_n hx hb dX9_set_25 rfl (lv_at hl 0 rfl) ?_
      refine va_get (D := (dC, dI)) (ci := 8) (v := .int 0) (C := RX9) (T := TX9) (N := 28) hx hb hts (by decide +kernel) hown hK hP 0 rfl rfl 0 (by decide) (hts (.fieldLink RX9 48 "UnibusMachineModel" "thrown" "I") (by decide +kernel)) (fun _ h9 => h9) rfl dX9_set_26 ?_
      refine lv_if_le (tgt := 33) hx hb dX9_set_29 (by decide) (fun c7 => ?_) (fun c7 => ?_)
      · skip
        refine lv_iload_n hx hb dX9_set_33 rfl (lv_at hl 1 rfl) ?_
        refine lv_bipush (v := 6) hx hb dX9_set_34 (by decide) ?_
        refine lv_icmp_ne (tgt := 55) hx hb dX9_set_36 (by decide) (fun c8 => ?_) (fun c8 => ?_)
        · exact absurd c8 (by decide)
        · skip
          refine lv_aload_n hx hb dX9_set_39 rfl (lv_at hl 0 rfl) ?_
          refine va_get (D := (dC, dI)) (ci := 8) (v := .int 0) (C := RX9) (T := TX9) (N := 28) hx hb hts (by decide +kernel) hown hK hP 0 rfl rfl 8 (by decide) (hts (.fieldLink RX9 116 "UnibusMachineModel" "mode" "I") (by decide +kernel)) (fun _ h9 => h9) rfl dX9_set_40 ?_
          refine lv_iconst (v := 1) hx hb dX9_set_43 (by decide) ?_
          refine lv_icmp_ne (tgt := 55) hx hb dX9_set_44 (by decide) (fun c9 => ?_) (fun c9 => ?_)
          · skip
            refine lv_aload_n hx hb dX9_set_55 rfl (lv_at hl 0 rfl) ?_
            refine va_get (D := (dC, dI)) (ci := 8) (v := .ref ar) (C := RX9) (T := TX9) (N := 28) hx hb hts (by decide +kernel) hown hK hP 0 rfl rfl 6 (by decide) (hts (.fieldLink RX9 19 "UnibusMachineModel" "reg" "[I") (by decide +kernel)) (fun _ h9 => h9) rfl dX9_set_56 ?_
            refine lv_iload_n hx hb dX9_set_59 rfl (lv_at hl 1 rfl) ?_
            refine lv_iload_n hx hb dX9_set_60 rfl (lv_at hl 2 rfl) ?_
            refine va_iast (D := (dC, dI)) hx hb hK hP hD hS 1 0 rfl rfl (vp_in_iff.mpr (by decide)) dX9_set_61 (fun H locs hP hD hS => ?_)
            have hP : va_P (dC, dI) vwCl [(h0, .inr (8, [.int 0, .ref am, .ref ad, .ref ab, .int 0, .int 0, .ref ar, .int 0, .int 0, .int 2, .int 0, .int 0, .int 0, .ref az, .ref ae, .ref ao, .ref an, .ref au, .int 0, .int 0, .int 0, .ref ap, .ref aw, .int 0, .int 0, .int 0, .int 0, .int 0])), (ar, .inl (tr, 8, .inl (upd g (6 : Int32).toNatClampNeg 1024)))] H := hP
            have hD : va_D A [(h0, .inr (8, [.int 0, .ref am, .ref ad, .ref ab, .int 0, .int 0, .ref ar, .int 0, .int 0, .int 2, .int 0, .int 0, .int 0, .ref az, .ref ae, .ref ao, .ref an, .ref au, .int 0, .int 0, .int 0, .ref ap, .ref aw, .int 0, .int 0, .int 0, .int 0, .int 0])), (ar, .inl (tr, 8, .inl (upd g (6 : Int32).toNatClampNeg 1024)))] := hD
            obtain ⟨f10, hf10⟩ : ∃ z : Nat → Int32, z = upd g (6 : Int32).toNatClampNeg 1024 := ⟨_, rfl⟩
            rw [← hf10] at hP hD
            have hf10_6 : f10 (6 : Int32).toNatClampNeg = 1024 := by rw [hf10, pk_us]
            have hP : va_P (dC, dI) vwCl [(h0, .inr (8, [.int 0, .ref am, .ref ad, .ref ab, .int 0, .int 0, .ref ar, .int 0, .int 0, .int 2, .int 0, .int 0, .int 0, .ref az, .ref ae, .ref ao, .ref an, .ref au, .int 0, .int 0, .int 0, .ref ap, .ref aw, .int 0, .int 0, .int 0, .int 0, .int 0])), (ar, .inl (tr, 8, .inl f10))] H := hP
            have hD : va_D A [(h0, .inr (8, [.int 0, .ref am, .ref ad, .ref ab, .int 0, .int 0, .ref ar, .int 0, .int 0, .int 2, .int 0, .int 0, .int 0, .ref az, .ref ae, .ref ao, .ref an, .ref au, .int 0, .int 0, .int 0, .ref ap, .ref aw, .int 0, .int 0, .int 0, .int 0, .int 0])), (ar, .inl (tr, 8, .inl f10))] := hD
            have hx11 : f10 (6 : Int32).toNatClampNeg = 1024 := by first | assumption | omega
            have hP9 := hP.sub (ws' := [(h0, .inr (8, [.int 0, .ref am, .ref ad, .ref ab, .int 0, .int 0, .ref ar, .int 0, .int 0, .int 2, .int 0, .int 0, .int 0, .ref az, .ref ae, .ref ao, .ref an, .ref au, .int 0, .int 0, .int 0, .ref ap, .ref aw, .int 0, .int 0, .int 0, .int 0, .int 0])), (ar, .inl (tr, 8, .inl f10))]) [0, 1] rfl
            have hD9 := hD.sub (ws' := [(h0, .inr (8, [.int 0, .ref am, .ref ad, .ref ab, .int 0, .int 0, .ref ar, .int 0, .int 0, .int 2, .int 0, .int 0, .int 0, .ref az, .ref ae, .ref ao, .ref an, .ref au, .int 0, .int 0, .int 0, .ref ap, .ref aw, .int 0, .int 0, .int 0, .int 0, .int 0])), (ar, .inl (tr, 8, .inl f10))]) [0, 1] (by decide) rfl
            have hK9 := hK.sub (tys' := [(tr, .int)]) [0] rfl
            exact W.vret hx hb hr (fun t ht hW => ⟨⟨(f10), rfl, hx11, by rw [ht]; exact hP9, va_K.moved hW.alike hK9, hD9⟩, hS.F ht⟩) hS.2.2 dX9_set_62
          · exact absurd c9 (by decide)
      · exact absurd c7 (by decide)
    · exact absurd c6 (by decide)
set_option maxHeartbeats 4000000 in
set_option maxRecDepth 100000 in
theorem c_m_settle0 (l : Launch) (dC : Nat → ClassId) (dI : Nat → Nat → Nat) (h0 : Nat) (am : Nat) (ad : Nat) (ab : Nat) (ar : Nat) (az : Nat) (ae : Nat) (ao : Nat) (an : Nat) (au : Nat) (ap : Nat) (aw : Nat) (sz : Nat) : Met l yX9_settle wsX9_settle ({ frames := 0, cells := 0, slots := 0, locals := 0 } : Room) (va_Pc [.ref h0] (fun U => U.heap.size = sz ∧ va_P (dC, dI) vwCl [(h0, .inr (8, [.int 0, .ref am, .ref ad, .ref ab, .int 0, .int 224, .ref ar, .int 0, .int 0, .int 2, .int 0, .int 0, .int 0, .ref az, .ref ae, .ref ao, .ref an, .ref au, .int 0, .int 0, .int 0, .ref ap, .ref aw, .int 0, .int 0, .int 0, .int 0, .int 0]))] U.heap ∧ va_K (dC, dI) vwCl [] U ∧ va_D (fun _ => True) [(h0, .inr (8, [.int 0, .ref am, .ref ad, .ref ab, .int 0, .int 224, .ref ar, .int 0, .int 0, .int 2, .int 0, .int 0, .int 0, .ref az, .ref ae, .ref ao, .ref an, .ref au, .int 0, .int 0, .int 0, .ref ap, .ref aw, .int 0, .int 0, .int 0, .int 0, .int 0]))])) (va_Qv (fun (u : Unit) => True) (fun (u : Unit) (t : State) => va_P (dC, dI) vwCl [(h0, .inr (8, [.int 0, .ref am, .ref ad, .ref ab, .int 0, .int 224, .ref ar, .int 0, .int 0, .int 2, .int 0, .int 0, .int 0, .ref az, .ref ae, .ref ao, .ref an, .ref au, .int 0, .int 0, .int 0, .ref ap, .ref aw, .int 0, .int 0, .int 0, .int 0, .int 0]))] t.heap ∧ va_K (dC, dI) vwCl [] t ∧ va_D (va_A [(h0, .inr (8, [.int 0, .ref am, .ref ad, .ref ab, .int 0, .int 224, .ref ar, .int 0, .int 0, .int 2, .int 0, .int 0, .int 0, .ref az, .ref ae, .ref ao, .ref an, .ref au, .int 0, .int 0, .int 0, .ref ap, .ref aw, .int 0, .int 0, .int 0, .int 0, .int 0]))] sz) [(h0, .inr (8, [.int 0, .ref am, .ref ad, .ref ab, .int 0, .int 224, .ref ar, .int 0, .int 0, .int 2, .int 0, .int 0, .int 0, .ref az, .ref ae, .ref ao, .ref an, .ref au, .int 0, .int 0, .int 0, .ref ap, .ref aw, .int 0, .int 0, .int 0, .int 0, .int 0]))]) (va_A [(h0, .inr (8, [.int 0, .ref am, .ref ad, .ref ab, .int 0, .int 224, .ref ar, .int 0, .int 0, .int 2, .int 0, .int 0, .int 0, .ref az, .ref ae, .ref ao, .ref an, .ref au, .int 0, .int 0, .int 0, .ref ap, .ref aw, .int 0, .int 0, .int 0, .int 0, .int 0]))] sz)) 0 0 (va_A [(h0, .inr (8, [.int 0, .ref am, .ref ad, .ref ab, .int 0, .int 224, .ref ar, .int 0, .int 0, .int 2, .int 0, .int 0, .int 0, .ref az, .ref ae, .ref ao, .ref an, .ref au, .int 0, .int 0, .int 0, .ref ap, .ref aw, .int 0, .int 0, .int 0, .int 0, .int 0]))] sz) := by
  refine Met.ofW (cc := cX9_settle) (maxL := 3) (ret := none) (by decide) rfl ?_
  intro p e s m args below meth c s₁ B hml hv
  obtain ⟨rfl, hsz, hP, hK, hD0⟩ := hv
  have hx := B.exec
  have hb := B.bytes
  have hr := B.returns
  have hts := atoms_spec (ws := wsX9_settle) B.pre
  have hown : s.vm.findClass RX9 = some m.cls := findClass_of_methodNamed B.named
  have hlocks := B.notSynchronized
  have hD := hD0.self (sz := sz)
  generalize hAe : va_A [(h0, .inr (8, [.int 0, .ref am, .ref ad, .ref ab, .int 0, .int 224, .ref ar, .int 0, .int 0, .int 2, .int 0, .int 0, .int 0, .ref az, .ref ae, .ref ao, .ref an, .ref au, .int 0, .int 0, .int 0, .ref ap, .ref aw, .int 0, .int 0, .int 0, .int 0, .int 0]))] sz = A at hD ⊢
  have hA : ∀ q : Nat, s.heap.size ≤ q → A q := fun q h => by rw [← hAe]; exact Or.inr (by omega)
  have hS0 : ∀ G : Heap, s.heap = G → va_S A s.heap G [] := fun G h => by subst h; exact va_S.rf
  generalize hHe : s.heap = H at hP ⊢
  have hS := hS0 H hHe
  have hP : va_P (dC, dI) vwCl [(h0, .inr (8, [.int 0, .ref am, .ref ad, .ref ab, .int 0, .int 224, .ref ar, .int 0, .int 0, .int 2, .int 0, .int 0, .int 0, .ref az, .ref ae, .ref ao, .ref an, .ref au, .int 0, .int 0, .int 0, .ref ap, .ref aw, .int 0, .int 0, .int 0, .int 0, .int 0]))] H := hP
  have hD : va_D A [(h0, .inr (8, [.int 0, .ref am, .ref ad, .ref ab, .int 0, .int 224, .ref ar, .int 0, .int 0, .int 2, .int 0, .int 0, .int 0, .ref az, .ref ae, .ref ao, .ref an, .ref au, .int 0, .int 0, .int 0, .ref ap, .ref aw, .int 0, .int 0, .int 0, .int 0, .int 0]))] := hD
  have hK : va_K (dC, dI) vwCl [] s := hK
  have hl := lv_entry ([.ref h0]) (n := 3) (Nat.le_of_ble_eq_true rfl)
  rw [lg_entry_eq]
  generalize (lg_sl ([.ref h0]) ++ List.replicate (3 - (lg_sl ([.ref h0])).length) Slot.unset).toArray = ls at hl ⊢
  have hl : lv_has ls 3 [(0, .ref h0)] := hl
  refine lv_aload_n hx hb dX9_settle_0 rfl (lv_at hl 0 rfl) ?_
  refine va_get (D := (dC, dI)) (ci := 8) (v := .int 224) (C := RX9) (T := TX9) (N := 28) hx hb hts (by decide +kernel) hown hK hP 0 rfl rfl 5 (by decide) (hts (.fieldLink RX9 84 "UnibusMachineModel" "status" "I") (by decide +kernel)) (fun _ h9 => h9) rfl dX9_settle_1 ?_
  refine lv_sipush (v := 16384) hx hb dX9_settle_4 (by decide) ?_
  refine lv_idiv hx hb dX9_settle_7 (by decide) ?_
  refine lv_topi (fun y1 ey1 => ?_)
  obtain rfl : y1 = 0 := by rw [ey1]; decide
  refine lv_iconst (v := 2) hx hb dX9_settle_8 (by decide) ?_
  refine lv_irem hx hb dX9_settle_9 (by decide) ?_
  refine lv_topi (fun y2 ey2 => ?_)
  obtain rfl : y2 = 0 := by rw [ey2]; decide
  refine lv_istore_n (lv' := [(1, .int 0), (0, .ref h0)]) hx hb dX9_settle_10 rfl hl (by decide) rfl (fun ls hl => ?_)
  refine lv_iload_n hx hb dX9_settle_11 rfl (lv_at hl 0 rfl) ?_
  refine lv_aload_n hx hb dX9_settle_12 rfl (lv_at hl 1 rfl) ?_
  refine va_get (D := (dC, dI)) (ci := 8) (v := .int 0) (C := RX9) (T := TX9) (N := 28) hx hb hts (by decide +kernel) hown hK hP 0 rfl rfl 8 (by decide) (hts (.fieldLink RX9 116 "UnibusMachineModel" "mode" "I") (by decide +kernel)) (fun _ h9 => h9) rfl dX9_settle_13 ?_
  refine lv_icmp_ne (tgt := 20) hx hb dX9_settle_16 (by decide) (fun c3 => ?_) (fun c3 => ?_)
  · exact absurd c3 (by decide)
  · skip
    have hP9 := hP.sub (ws' := [(h0, .inr (8, [.int 0, .ref am, .ref ad, .ref ab, .int 0, .int 224, .ref ar, .int 0, .int 0, .int 2, .int 0, .int 0, .int 0, .ref az, .ref ae, .ref ao, .ref an, .ref au, .int 0, .int 0, .int 0, .ref ap, .ref aw, .int 0, .int 0, .int 0, .int 0, .int 0]))]) [0] rfl
    have hD9 := hD.sub (ws' := [(h0, .inr (8, [.int 0, .ref am, .ref ad, .ref ab, .int 0, .int 224, .ref ar, .int 0, .int 0, .int 2, .int 0, .int 0, .int 0, .ref az, .ref ae, .ref ao, .ref an, .ref au, .int 0, .int 0, .int 0, .ref ap, .ref aw, .int 0, .int 0, .int 0, .int 0, .int 0]))]) [0] (by decide) rfl
    have hK9 := hK.sub (tys' := []) [] rfl
    exact W.vret hx hb hr (fun t ht hW => ⟨⟨(), rfl, trivial, by rw [ht]; exact hP9, va_K.moved hW.alike hK9, hD9⟩, hS.F ht⟩) hS.2.2 dX9_settle_19
set_option maxHeartbeats 4000000 in
set_option maxRecDepth 100000 in
theorem c_m_settle (l : Launch) (dC : Nat → ClassId) (dI : Nat → Nat → Nat) (h0 : Nat) (am : Nat) (ad : Nat) (ab : Nat) (ar : Nat) (az : Nat) (ae : Nat) (ao : Nat) (an : Nat) (au : Nat) (ap : Nat) (aw : Nat) (sz : Nat) : Met l yX9_settle wsX9_settle ({ frames := 0, cells := 0, slots := 0, locals := 0 } : Room) (va_Pc [.ref h0] (fun U => U.heap.size = sz ∧ va_P (dC, dI) vwCl [(h0, .inr (8, [.int 0, .ref am, .ref ad, .ref ab, .int 0, .int 224, .ref ar, .int 0, .int 0, .int 0, .int 0, .int 0, .int 0, .ref az, .ref ae, .ref ao, .ref an, .ref au, .int 0, .int 0, .int 0, .ref ap, .ref aw, .int 0, .int 0, .int 0, .int 0, .int 0]))] U.heap ∧ va_K (dC, dI) vwCl [] U ∧ va_D (fun _ => True) [(h0, .inr (8, [.int 0, .ref am, .ref ad, .ref ab, .int 0, .int 224, .ref ar, .int 0, .int 0, .int 0, .int 0, .int 0, .int 0, .ref az, .ref ae, .ref ao, .ref an, .ref au, .int 0, .int 0, .int 0, .ref ap, .ref aw, .int 0, .int 0, .int 0, .int 0, .int 0]))])) (va_Qv (fun (u : Unit) => True) (fun (u : Unit) (t : State) => va_P (dC, dI) vwCl [(h0, .inr (8, [.int 0, .ref am, .ref ad, .ref ab, .int 0, .int 224, .ref ar, .int 0, .int 0, .int 0, .int 0, .int 0, .int 0, .ref az, .ref ae, .ref ao, .ref an, .ref au, .int 0, .int 0, .int 0, .ref ap, .ref aw, .int 0, .int 0, .int 0, .int 0, .int 0]))] t.heap ∧ va_K (dC, dI) vwCl [] t ∧ va_D (va_A [(h0, .inr (8, [.int 0, .ref am, .ref ad, .ref ab, .int 0, .int 224, .ref ar, .int 0, .int 0, .int 0, .int 0, .int 0, .int 0, .ref az, .ref ae, .ref ao, .ref an, .ref au, .int 0, .int 0, .int 0, .ref ap, .ref aw, .int 0, .int 0, .int 0, .int 0, .int 0]))] sz) [(h0, .inr (8, [.int 0, .ref am, .ref ad, .ref ab, .int 0, .int 224, .ref ar, .int 0, .int 0, .int 0, .int 0, .int 0, .int 0, .ref az, .ref ae, .ref ao, .ref an, .ref au, .int 0, .int 0, .int 0, .ref ap, .ref aw, .int 0, .int 0, .int 0, .int 0, .int 0]))]) (va_A [(h0, .inr (8, [.int 0, .ref am, .ref ad, .ref ab, .int 0, .int 224, .ref ar, .int 0, .int 0, .int 0, .int 0, .int 0, .int 0, .ref az, .ref ae, .ref ao, .ref an, .ref au, .int 0, .int 0, .int 0, .ref ap, .ref aw, .int 0, .int 0, .int 0, .int 0, .int 0]))] sz)) 0 0 (va_A [(h0, .inr (8, [.int 0, .ref am, .ref ad, .ref ab, .int 0, .int 224, .ref ar, .int 0, .int 0, .int 0, .int 0, .int 0, .int 0, .ref az, .ref ae, .ref ao, .ref an, .ref au, .int 0, .int 0, .int 0, .ref ap, .ref aw, .int 0, .int 0, .int 0, .int 0, .int 0]))] sz) := by
  refine Met.ofW (cc := cX9_settle) (maxL := 3) (ret := none) (by decide) rfl ?_
  intro p e s m args below meth c s₁ B hml hv
  obtain ⟨rfl, hsz, hP, hK, hD0⟩ := hv
  have hx := B.exec
  have hb := B.bytes
  have hr := B.returns
  have hts := atoms_spec (ws := wsX9_settle) B.pre
  have hown : s.vm.findClass RX9 = some m.cls := findClass_of_methodNamed B.named
  have hlocks := B.notSynchronized
  have hD := hD0.self (sz := sz)
  generalize hAe : va_A [(h0, .inr (8, [.int 0, .ref am, .ref ad, .ref ab, .int 0, .int 224, .ref ar, .int 0, .int 0, .int 0, .int 0, .int 0, .int 0, .ref az, .ref ae, .ref ao, .ref an, .ref au, .int 0, .int 0, .int 0, .ref ap, .ref aw, .int 0, .int 0, .int 0, .int 0, .int 0]))] sz = A at hD ⊢
  have hA : ∀ q : Nat, s.heap.size ≤ q → A q := fun q h => by rw [← hAe]; exact Or.inr (by omega)
  have hS0 : ∀ G : Heap, s.heap = G → va_S A s.heap G [] := fun G h => by subst h; exact va_S.rf
  generalize hHe : s.heap = H at hP ⊢
  have hS := hS0 H hHe
  have hP : va_P (dC, dI) vwCl [(h0, .inr (8, [.int 0, .ref am, .ref ad, .ref ab, .int 0, .int 224, .ref ar, .int 0, .int 0, .int 0, .int 0, .int 0, .int 0, .ref az, .ref ae, .ref ao, .ref an, .ref au, .int 0, .int 0, .int 0, .ref ap, .ref aw, .int 0, .int 0, .int 0, .int 0, .int 0]))] H := hP
  have hD : va_D A [(h0, .inr (8, [.int 0, .ref am, .ref ad, .ref ab, .int 0, .int 224, .ref ar, .int 0, .int 0, .int 0, .int 0, .int 0, .int 0, .ref az, .ref ae, .ref ao, .ref an, .ref au, .int 0, .int 0, .int 0, .ref ap, .ref aw, .int 0, .int 0, .int 0, .int 0, .int 0]))] := hD
  have hK : va_K (dC, dI) vwCl [] s := hK
  have hl := lv_entry ([.ref h0]) (n := 3) (Nat.le_of_ble_eq_true rfl)
  rw [lg_entry_eq]
  generalize (lg_sl ([.ref h0]) ++ List.replicate (3 - (lg_sl ([.ref h0])).length) Slot.unset).toArray = ls at hl ⊢
  have hl : lv_has ls 3 [(0, .ref h0)] := hl
  refine lv_aload_n hx hb dX9_settle_0 rfl (lv_at hl 0 rfl) ?_
  refine va_get (D := (dC, dI)) (ci := 8) (v := .int 224) (C := RX9) (T := TX9) (N := 28) hx hb hts (by decide +kernel) hown hK hP 0 rfl rfl 5 (by decide) (hts (.fieldLink RX9 84 "UnibusMachineModel" "status" "I") (by decide +kernel)) (fun _ h9 => h9) rfl dX9_settle_1 ?_
  refine lv_sipush (v := 16384) hx hb dX9_settle_4 (by decide) ?_
  refine lv_idiv hx hb dX9_settle_7 (by decide) ?_
  refine lv_topi (fun y1 ey1 => ?_)
  obtain rfl : y1 = 0 := by rw [ey1]; decide
  refine lv_iconst (v := 2) hx hb dX9_settle_8 (by decide) ?_
  refine lv_irem hx hb dX9_settle_9 (by decide) ?_
  refine lv_topi (fun y2 ey2 => ?_)
  obtain rfl : y2 = 0 := by rw [ey2]; decide
  refine lv_istore_n (lv' := [(1, .int 0), (0, .ref h0)]) hx hb dX9_settle_10 rfl hl (by decide) rfl (fun ls hl => ?_)
  refine lv_iload_n hx hb dX9_settle_11 rfl (lv_at hl 0 rfl) ?_
  refine lv_aload_n hx hb dX9_settle_12 rfl (lv_at hl 1 rfl) ?_
  refine va_get (D := (dC, dI)) (ci := 8) (v := .int 0) (C := RX9) (T := TX9) (N := 28) hx hb hts (by decide +kernel) hown hK hP 0 rfl rfl 8 (by decide) (hts (.fieldLink RX9 116 "UnibusMachineModel" "mode" "I") (by decide +kernel)) (fun _ h9 => h9) rfl dX9_settle_13 ?_
  refine lv_icmp_ne (tgt := 20) hx hb dX9_settle_16 (by decide) (fun c3 => ?_) (fun c3 => ?_)
  · exact absurd c3 (by decide)
  · skip
    have hP9 := hP.sub (ws' := [(h0, .inr (8, [.int 0, .ref am, .ref ad, .ref ab, .int 0, .int 224, .ref ar, .int 0, .int 0, .int 0, .int 0, .int 0, .int 0, .ref az, .ref ae, .ref ao, .ref an, .ref au, .int 0, .int 0, .int 0, .ref ap, .ref aw, .int 0, .int 0, .int 0, .int 0, .int 0]))]) [0] rfl
    have hD9 := hD.sub (ws' := [(h0, .inr (8, [.int 0, .ref am, .ref ad, .ref ab, .int 0, .int 224, .ref ar, .int 0, .int 0, .int 0, .int 0, .int 0, .int 0, .ref az, .ref ae, .ref ao, .ref an, .ref au, .int 0, .int 0, .int 0, .ref ap, .ref aw, .int 0, .int 0, .int 0, .int 0, .int 0]))]) [0] (by decide) rfl
    have hK9 := hK.sub (tys' := []) [] rfl
    exact W.vret hx hb hr (fun t ht hW => ⟨⟨(), rfl, trivial, by rw [ht]; exact hP9, va_K.moved hW.alike hK9, hD9⟩, hS.F ht⟩) hS.2.2 dX9_settle_19
set_option maxHeartbeats 4000000 in
set_option maxRecDepth 100000 in
theorem c_m_start (l : Launch) (dC : Nat → ClassId) (dI : Nat → Nat → Nat) (h0 : Nat) (am : Nat) (ad : Nat) (ab : Nat) (ar : Nat) (az : Nat) (ae : Nat) (ao : Nat) (an : Nat) (au : Nat) (ap : Nat) (aw : Nat) (tr : ClassId) (g : Nat → Int32) (sz : Nat) (hF0 : g (6 : Int32).toNatClampNeg = 1024) : Met l yX9_start wsX9_start ({ frames := 1, cells := 0, slots := 0, locals := 22 } : Room) (va_Pc [.ref h0, .int 1] (fun U => U.heap.size = sz ∧ va_P (dC, dI) vwCl [(h0, .inr (8, [.int 0, .ref am, .ref ad, .ref ab, .int 0, .int 0, .ref ar, .int 0, .int 0, .int 2, .int 0, .int 0, .int 0, .ref az, .ref ae, .ref ao, .ref an, .ref au, .int 0, .int 0, .int 0, .ref ap, .ref aw, .int 0, .int 0, .int 0, .int 0, .int 0])), (ar, .inl (tr, 8, .inl g))] U.heap ∧ va_K (dC, dI) vwCl [(tr, .int)] U ∧ va_D (fun _ => True) [(h0, .inr (8, [.int 0, .ref am, .ref ad, .ref ab, .int 0, .int 0, .ref ar, .int 0, .int 0, .int 2, .int 0, .int 0, .int 0, .ref az, .ref ae, .ref ao, .ref an, .ref au, .int 0, .int 0, .int 0, .ref ap, .ref aw, .int 0, .int 0, .int 0, .int 0, .int 0])), (ar, .inl (tr, 8, .inl g))])) (va_Qv (fun (u : (Nat → Int32)) => (u (7 : Int32).toNatClampNeg = 1) ∧ (u (6 : Int32).toNatClampNeg = 1024)) (fun (u : (Nat → Int32)) (t : State) => va_P (dC, dI) vwCl [(h0, .inr (8, [.int 0, .ref am, .ref ad, .ref ab, .int 0, .int 224, .ref ar, .int 0, .int 0, .int 0, .int 0, .int 0, .int 0, .ref az, .ref ae, .ref ao, .ref an, .ref au, .int 0, .int 0, .int 0, .ref ap, .ref aw, .int 0, .int 0, .int 0, .int 0, .int 0])), (ar, .inl (tr, 8, .inl u))] t.heap ∧ va_K (dC, dI) vwCl [(tr, .int)] t ∧ va_D (va_A [(h0, .inr (8, [.int 0, .ref am, .ref ad, .ref ab, .int 0, .int 0, .ref ar, .int 0, .int 0, .int 2, .int 0, .int 0, .int 0, .ref az, .ref ae, .ref ao, .ref an, .ref au, .int 0, .int 0, .int 0, .ref ap, .ref aw, .int 0, .int 0, .int 0, .int 0, .int 0])), (ar, .inl (tr, 8, .inl g))] sz) [(h0, .inr (8, [.int 0, .ref am, .ref ad, .ref ab, .int 0, .int 224, .ref ar, .int 0, .int 0, .int 0, .int 0, .int 0, .int 0, .ref az, .ref ae, .ref ao, .ref an, .ref au, .int 0, .int 0, .int 0, .ref ap, .ref aw, .int 0, .int 0, .int 0, .int 0, .int 0])), (ar, .inl (tr, 8, .inl u))]) (va_A [(h0, .inr (8, [.int 0, .ref am, .ref ad, .ref ab, .int 0, .int 0, .ref ar, .int 0, .int 0, .int 2, .int 0, .int 0, .int 0, .ref az, .ref ae, .ref ao, .ref an, .ref au, .int 0, .int 0, .int 0, .ref ap, .ref aw, .int 0, .int 0, .int 0, .int 0, .int 0])), (ar, .inl (tr, 8, .inl g))] sz)) 0 0 (va_A [(h0, .inr (8, [.int 0, .ref am, .ref ad, .ref ab, .int 0, .int 0, .ref ar, .int 0, .int 0, .int 2, .int 0, .int 0, .int 0, .ref az, .ref ae, .ref ao, .ref an, .ref au, .int 0, .int 0, .int 0, .ref ap, .ref aw, .int 0, .int 0, .int 0, .int 0, .int 0])), (ar, .inl (tr, 8, .inl g))] sz) := by
  refine Met.ofW (cc := cX9_start) (maxL := 2) (ret := none) (by decide) rfl ?_
  intro p e s m args below meth c s₁ B hml hv
  obtain ⟨rfl, hsz, hP, hK, hD0⟩ := hv
  have hx := B.exec
  have hb := B.bytes
  have hr := B.returns
  have hts := atoms_spec (ws := wsX9_start) B.pre
  have hown : s.vm.findClass RX9 = some m.cls := findClass_of_methodNamed B.named
  have hlocks := B.notSynchronized
  have hD := hD0.self (sz := sz)
  generalize hAe : va_A [(h0, .inr (8, [.int 0, .ref am, .ref ad, .ref ab, .int 0, .int 0, .ref ar, .int 0, .int 0, .int 2, .int 0, .int 0, .int 0, .ref az, .ref ae, .ref ao, .ref an, .ref au, .int 0, .int 0, .int 0, .ref ap, .ref aw, .int 0, .int 0, .int 0, .int 0, .int 0])), (ar, .inl (tr, 8, .inl g))] sz = A at hD ⊢
  have hA : ∀ q : Nat, s.heap.size ≤ q → A q := fun q h => by rw [← hAe]; exact Or.inr (by omega)
  have hS0 : ∀ G : Heap, s.heap = G → va_S A s.heap G [] := fun G h => by subst h; exact va_S.rf
  generalize hHe : s.heap = H at hP ⊢
  have hS := hS0 H hHe
  have hP : va_P (dC, dI) vwCl [(h0, .inr (8, [.int 0, .ref am, .ref ad, .ref ab, .int 0, .int 0, .ref ar, .int 0, .int 0, .int 2, .int 0, .int 0, .int 0, .ref az, .ref ae, .ref ao, .ref an, .ref au, .int 0, .int 0, .int 0, .ref ap, .ref aw, .int 0, .int 0, .int 0, .int 0, .int 0])), (ar, .inl (tr, 8, .inl g))] H := hP
  have hD : va_D A [(h0, .inr (8, [.int 0, .ref am, .ref ad, .ref ab, .int 0, .int 0, .ref ar, .int 0, .int 0, .int 2, .int 0, .int 0, .int 0, .ref az, .ref ae, .ref ao, .ref an, .ref au, .int 0, .int 0, .int 0, .ref ap, .ref aw, .int 0, .int 0, .int 0, .int 0, .int 0])), (ar, .inl (tr, 8, .inl g))] := hD
  have hK : va_K (dC, dI) vwCl [(tr, .int)] s := hK
  have hl := lv_entry ([.ref h0, .int 1]) (n := 2) (Nat.le_of_ble_eq_true rfl)
  rw [lg_entry_eq]
  generalize (lg_sl ([.ref h0, .int 1]) ++ List.replicate (2 - (lg_sl ([.ref h0, .int 1])).length) Slot.unset).toArray = ls at hl ⊢
  have hl : lv_has ls 2 [(0, .ref h0), (1, .int 1)] := hl
  refine lv_aload_n hx hb dX9_start_0 rfl (lv_at hl 0 rfl) ?_
  refine lv_iload_n hx hb dX9_start_1 rfl (lv_at hl 1 rfl) ?_
  have hPc := hP.sub (ws' := []) [] rfl
  have hDc := hD.sub (ws' := []) [] (by decide) rfl
  have hKc := hK.sub (tys' := []) [] rfl
  have hFc := va_free (wc := []) hD hS hA [] rfl
  refine va_calli (va_runS (As := [.int 1]) (rest := [.ref h0]) ⟨hx, hb, hml, hown, hts⟩ (c_m_isWord1 l dC dI  H.size) (va_cwS 1 hts gX9_start_X9_isWord rfl rfl rfl (by decide +kernel) ⟨Nat.le_of_ble_eq_true rfl, Nat.le_of_ble_eq_true rfl⟩) ⟨fun a U g mk q => by obtain ⟨q0, q1, qP, qK, qD⟩ := q; exact ⟨q0, q1, qP, va_K.moved (u := U) (U := U.calling g mk a) (Vm.Alike.refl U.vm) qK, qD⟩, fun U hU hW => ⟨rfl, by rw [hU], by rw [hU]; exact hPc, va_K.moved hW.alike hKc, hDc.weaken (fun _ _ _ _ => trivial)⟩⟩ rfl rfl hl.1 rfl (lv_room (Nat.le_of_ble_eq_true rfl)) dX9_start_2 ⟨Nat.le_of_ble_eq_true rfl, Nat.le_of_ble_eq_true rfl⟩) hS (fun q _ h => hFc q h) hFc (fun r1 u2 t H1 locs ht hvm hw hB hz1 hk1 hS => ?_)
  obtain ⟨hP1, hK1, hD1⟩ := hB
  rw [ht] at hP1
  have hK1 := va_K.moved hvm.symm hK1
  try dsimp only at hw
  obtain ⟨hP, hD⟩ := va_join (wr := [(h0, .inr (8, [.int 0, .ref am, .ref ad, .ref ab, .int 0, .int 0, .ref ar, .int 0, .int 0, .int 2, .int 0, .int 0, .int 0, .ref az, .ref ae, .ref ao, .ref an, .ref au, .int 0, .int 0, .int 0, .ref ap, .ref aw, .int 0, .int 0, .int 0, .int 0, .int 0])), (ar, .inl (tr, 8, .inl g))]) (w1 := []) hP hD [] [0, 1] rfl rfl (by decide) (by decide) hk1 hFc hP1 hD1
  have hK := (hK.sub (tys' := [(tr, .int)]) [0] rfl).app hK1
  generalize H1 = H at hP hS ⊢
  have hP : va_P (dC, dI) vwCl [(h0, .inr (8, [.int 0, .ref am, .ref ad, .ref ab, .int 0, .int 0, .ref ar, .int 0, .int 0, .int 2, .int 0, .int 0, .int 0, .ref az, .ref ae, .ref ao, .ref an, .ref au, .int 0, .int 0, .int 0, .ref ap, .ref aw, .int 0, .int 0, .int 0, .int 0, .int 0])), (ar, .inl (tr, 8, .inl g))] H := hP
  have hD : va_D A [(h0, .inr (8, [.int 0, .ref am, .ref ad, .ref ab, .int 0, .int 0, .ref ar, .int 0, .int 0, .int 2, .int 0, .int 0, .int 0, .ref az, .ref ae, .ref ao, .ref an, .ref au, .int 0, .int 0, .int 0, .ref ap, .ref aw, .int 0, .int 0, .int 0, .int 0, .int 0])), (ar, .inl (tr, 8, .inl g))] := hD
  have hK : va_K (dC, dI) vwCl [(tr, .int)] s := hK
  refine W.widen (k := 0) (n := 0) (Nat.le_of_ble_eq_true rfl) (Nat.le_of_ble_eq_true rfl) ?_
  obtain rfl := hw
  refine lv_if_eq (tgt := 12) hx hb dX9_start_5 (by decide) (fun c3 => ?_) (fun c3 => ?_)
  · exact absurd c3 (by decide)
  · skip
    refine lv_iconst (v := 0) hx hb dX9_start_8 (by decide) ?_
    refine lv_goto (tgt := 13) hx hb dX9_start_9 (by decide) ?_
    refine va_put (D := (dC, dI)) (ci := 8) (v := .int 0) (ty := .int) (C := RX9) (T := TX9) (N := 28) hx hb hts (by decide +kernel) tyX9 tyX9_ok nmX9 hown hK hP hD hS 0 rfl rfl 0 (by decide) (hts (.fieldLink RX9 48 "UnibusMachineModel" "thrown" "I") (by decide +kernel)) (fun _ h9 => h9) rfl (by decide +kernel) rfl rfl (Nat.le_of_ble_eq_true rfl) dX9_start_13 (fun H locs hP hD hS => ?_)
    have hP : va_P (dC, dI) vwCl [(h0, .inr (8, [.int 0, .ref am, .ref ad, .ref ab, .int 0, .int 0, .ref ar, .int 0, .int 0, .int 2, .int 0, .int 0, .int 0, .ref az, .ref ae, .ref ao, .ref an, .ref au, .int 0, .int 0, .int 0, .ref ap, .ref aw, .int 0, .int 0, .int 0, .int 0, .int 0])), (ar, .inl (tr, 8, .inl g))] H := hP
    have hD : va_D A [(h0, .inr (8, [.int 0, .ref am, .ref ad, .ref ab, .int 0, .int 0, .ref ar, .int 0, .int 0, .int 2, .int 0, .int 0, .int 0, .ref az, .ref ae, .ref ao, .ref an, .ref au, .int 0, .int 0, .int 0, .ref ap, .ref aw, .int 0, .int 0, .int 0, .int 0, .int 0])), (ar, .inl (tr, 8, .inl g))] := hD
    refine lv_aload_n hx hb dX9_start_16 rfl (lv_at hl 0 rfl) ?_
    refine va_get (D := (dC, dI)) (ci := 8) (v := .int 0) (C := RX9) (T := TX9) (N := 28) hx hb hts (by decide +kernel) hown hK hP 0 rfl rfl 0 (by decide) (hts (.fieldLink RX9 48 "UnibusMachineModel" "thrown" "I") (by decide +kernel)) (fun _ h9 => h9) rfl dX9_start_17 ?_
    refine lv_if_le (tgt := 24) hx hb dX9_start_20 (by decide) (fun c4 => ?_) (fun c4 => ?_)
    · skip
      refine lv_aload_n hx hb dX9_start_24 rfl (lv_at hl 0 rfl) ?_
      refine lv_sipush (v := 224) hx hb dX9_start_25 (by decide) ?_
      refine va_put (D := (dC, dI)) (ci := 8) (v := .int 224) (ty := .int) (C := RX9) (T := TX9) (N := 28) hx hb hts (by decide +kernel) tyX9 tyX9_ok nmX9 hown hK hP hD hS 0 rfl rfl 5 (by decide) (hts (.fieldLink RX9 84 "UnibusMachineModel" "status" "I") (by decide +kernel)) (fun _ h9 => h9) rfl (by decide +kernel) rfl rfl (Nat.le_of_ble_eq_true rfl) dX9_start_28 (fun H locs hP hD hS => ?_)
      have hP : va_P (dC, dI) vwCl [(h0, .inr (8, [.int 0, .ref am, .ref ad, .ref ab, .int 0, .int 224, .ref ar, .int 0, .int 0, .int 2, .int 0, .int 0, .int 0, .ref az, .ref ae, .ref ao, .ref an, .ref au, .int 0, .int 0, .int 0, .ref ap, .ref aw, .int 0, .int 0, .int 0, .int 0, .int 0])), (ar, .inl (tr, 8, .inl g))] H := hP
      have hD : va_D A [(h0, .inr (8, [.int 0, .ref am, .ref ad, .ref ab, .int 0, .int 224, .ref ar, .int 0, .int 0, .int 2, .int 0, .int 0, .int 0, .ref az, .ref ae, .ref ao, .ref an, .ref au, .int 0, .int 0, .int 0, .ref ap, .ref aw, .int 0, .int 0, .int 0, .int 0, .int 0])), (ar, .inl (tr, 8, .inl g))] := hD
      refine lv_aload_n hx hb dX9_start_31 rfl (lv_at hl 0 rfl) ?_
      have hPc := hP.sub (ws' := [(h0, .inr (8, [.int 0, .ref am, .ref ad, .ref ab, .int 0, .int 224, .ref ar, .int 0, .int 0, .int 2, .int 0, .int 0, .int 0, .ref az, .ref ae, .ref ao, .ref an, .ref au, .int 0, .int 0, .int 0, .ref ap, .ref aw, .int 0, .int 0, .int 0, .int 0, .int 0]))]) [0] rfl
      have hDc := hD.sub (ws' := [(h0, .inr (8, [.int 0, .ref am, .ref ad, .ref ab, .int 0, .int 224, .ref ar, .int 0, .int 0, .int 2, .int 0, .int 0, .int 0, .ref az, .ref ae, .ref ao, .ref an, .ref au, .int 0, .int 0, .int 0, .ref ap, .ref aw, .int 0, .int 0, .int 0, .int 0, .int 0]))]) [0] (by decide) rfl
      have hKc := hK.sub (tys' := []) [] rfl
      have hFc := va_free (wc := [(h0, .inr (8, [.int 0, .ref am, .ref ad, .ref ab, .int 0, .int 224, .ref ar, .int 0, .int 0, .int 2, .int 0, .int 0, .int 0, .ref az, .ref ae, .ref ao, .ref an, .ref au, .int 0, .int 0, .int 0, .ref ap, .ref aw, .int 0, .int 0, .int 0, .int 0, .int 0]))]) hD hS hA [0] rfl
      refine va_callv (va_runV (As := []) (rest := []) ⟨hx, hb, hml, hown, hts⟩ (c_m_settle0 l dC dI h0 am ad ab ar az ae ao an au ap aw H.size) (cwV 0 hts gX9_start_X9_settle rfl rfl rfl (by decide +kernel) ⟨Nat.le_of_ble_eq_true rfl, Nat.le_of_ble_eq_true rfl⟩) ⟨fun a U g mk q => by obtain ⟨q0, q1, qP, qK, qD⟩ := q; exact ⟨q0, q1, qP, va_K.moved (u := U) (U := U.calling g mk a) (Vm.Alike.refl U.vm) qK, qD⟩, va_recv hKc hPc (ci := 8) (q0 := 0) rfl rfl, fun U hU hW => ⟨rfl, by rw [hU], by rw [hU]; exact hPc, va_K.moved hW.alike hKc, hDc.weaken (fun _ _ _ _ => trivial)⟩⟩ rfl rfl hl.1 rfl (lv_room (Nat.le_of_ble_eq_true rfl)) dX9_start_32 ⟨Nat.le_of_ble_eq_true rfl, Nat.le_of_ble_eq_true rfl⟩) hS (fun q _ h => hFc q h) hFc (fun u6 t H1 locs ht hvm hw hB hz1 hk1 hS => ?_)
      obtain ⟨hP1, hK1, hD1⟩ := hB
      rw [ht] at hP1
      have hK1 := va_K.moved hvm.symm hK1
      try dsimp only at hw
      obtain ⟨hP, hD⟩ := va_join (wr := [(ar, .inl (tr, 8, .inl g))]) (w1 := [(h0, .inr (8, [.int 0, .ref am, .ref ad, .ref ab, .int 0, .int 224, .ref ar, .int 0, .int 0, .int 2, .int 0, .int 0, .int 0, .ref az, .ref ae, .ref ao, .ref an, .ref au, .int 0, .int 0, .int 0, .ref ap, .ref aw, .int 0, .int 0, .int 0, .int 0, .int 0]))]) hP hD [0] [1] rfl rfl (by decide) (by decide) hk1 hFc hP1 hD1
      have hK := (hK.sub (tys' := [(tr, .int)]) [0] rfl).app hK1
      generalize H1 = H at hP hS ⊢
      have hP : va_P (dC, dI) vwCl [(ar, .inl (tr, 8, .inl g)), (h0, .inr (8, [.int 0, .ref am, .ref ad, .ref ab, .int 0, .int 224, .ref ar, .int 0, .int 0, .int 2, .int 0, .int 0, .int 0, .ref az, .ref ae, .ref ao, .ref an, .ref au, .int 0, .int 0, .int 0, .ref ap, .ref aw, .int 0, .int 0, .int 0, .int 0, .int 0]))] H := hP
      have hD : va_D A [(ar, .inl (tr, 8, .inl g)), (h0, .inr (8, [.int 0, .ref am, .ref ad, .ref ab, .int 0, .int 224, .ref ar, .int 0, .int 0, .int 2, .int 0, .int 0, .int 0, .ref az, .ref ae, .ref ao, .ref an, .ref au, .int 0, .int 0, .int 0, .ref ap, .ref aw, .int 0, .int 0, .int 0, .int 0, .int 0]))] := hD
      have hK : va_K (dC, dI) vwCl [(tr, .int)] s := hK
      refine W.widen (k := 0) (n := 0) (Nat.le_of_ble_eq_true rfl) (Nat.le_of_ble_eq_true rfl) ?_
      refine lv_aload_n hx hb dX9_start_35 rfl (lv_at hl 0 rfl) ?_
      refine va_get (D := (dC, dI)) (ci := 8) (v := .ref ar) (C := RX9) (T := TX9) (N := 28) hx hb hts (by decide +kernel) hown hK hP 1 rfl rfl 6 (by decide) (hts (.fieldLink RX9 19 "UnibusMachineModel" "reg" "[I") (by decide +kernel)) (fun _ h9 => h9) rfl dX9_start_36 ?_
      refine lv_bipush (v := 7) hx hb dX9_start_39 (by decide) ?_
      refine lv_iload_n hx hb dX9_start_41 rfl (lv_at hl 1 rfl) ?_
      refine va_iast (D := (dC, dI)) hx hb hK hP hD hS 0 0 rfl rfl (vp_in_iff.mpr (by decide)) dX9_start_42 (fun H locs hP hD hS => ?_)
      have hP : va_P (dC, dI) vwCl [(ar, .inl (tr, 8, .inl (upd g (7 : Int32).toNatClampNeg 1))), (h0, .inr (8, [.int 0, .ref am, .ref ad, .ref ab, .int 0, .int 224, .ref ar, .int 0, .int 0, .int 2, .int 0, .int 0, .int 0, .ref az, .ref ae, .ref ao, .ref an, .ref au, .int 0, .int 0, .int 0, .ref ap, .ref aw, .int 0, .int 0, .int 0, .int 0, .int 0]))] H := hP
      have hD : va_D A [(ar, .inl (tr, 8, .inl (upd g (7 : Int32).toNatClampNeg 1))), (h0, .inr (8, [.int 0, .ref am, .ref ad, .ref ab, .int 0, .int 224, .ref ar, .int 0, .int 0, .int 2, .int 0, .int 0, .int 0, .ref az, .ref ae, .ref ao, .ref an, .ref au, .int 0, .int 0, .int 0, .ref ap, .ref aw, .int 0, .int 0, .int 0, .int 0, .int 0]))] := hD
      obtain ⟨f7, hf7⟩ : ∃ z : Nat → Int32, z = upd g (7 : Int32).toNatClampNeg 1 := ⟨_, rfl⟩
      rw [← hf7] at hP hD
      have hf7_6 : f7 (6 : Int32).toNatClampNeg = 1024 := by rw [hf7, pk_un (by decide)]; assumption
      have hf7_7 : f7 (7 : Int32).toNatClampNeg = 1 := by rw [hf7, pk_us]
      have hP : va_P (dC, dI) vwCl [(ar, .inl (tr, 8, .inl f7)), (h0, .inr (8, [.int 0, .ref am, .ref ad, .ref ab, .int 0, .int 224, .ref ar, .int 0, .int 0, .int 2, .int 0, .int 0, .int 0, .ref az, .ref ae, .ref ao, .ref an, .ref au, .int 0, .int 0, .int 0, .ref ap, .ref aw, .int 0, .int 0, .int 0, .int 0, .int 0]))] H := hP
      have hD : va_D A [(ar, .inl (tr, 8, .inl f7)), (h0, .inr (8, [.int 0, .ref am, .ref ad, .ref ab, .int 0, .int 224, .ref ar, .int 0, .int 0, .int 2, .int 0, .int 0, .int 0, .ref az, .ref ae, .ref ao, .ref an, .ref au, .int 0, .int 0, .int 0, .ref ap, .ref aw, .int 0, .int 0, .int 0, .int 0, .int 0]))] := hD
      refine lv_aload_n hx hb dX9_start_43 rfl (lv_at hl 0 rfl) ?_
      refine lv_iconst (v := 0) hx hb dX9_start_44 (by decide) ?_
      refine va_put (D := (dC, dI)) (ci := 8) (v := .int 0) (ty := .int) (C := RX9) (T := TX9) (N := 28) hx hb hts (by decide +kernel) tyX9 tyX9_ok nmX9 hown hK hP hD hS 1 rfl rfl 9 (by decide) (hts (.fieldLink RX9 22 "UnibusMachineModel" "state" "I") (by decide +kernel)) (fun _ h9 => h9) rfl (by decide +kernel) rfl rfl (Nat.le_of_ble_eq_true rfl) dX9_start_45 (fun H locs hP hD hS => ?_)
      have hP : va_P (dC, dI) vwCl [(ar, .inl (tr, 8, .inl f7)), (h0, .inr (8, [.int 0, .ref am, .ref ad, .ref ab, .int 0, .int 224, .ref ar, .int 0, .int 0, .int 0, .int 0, .int 0, .int 0, .ref az, .ref ae, .ref ao, .ref an, .ref au, .int 0, .int 0, .int 0, .ref ap, .ref aw, .int 0, .int 0, .int 0, .int 0, .int 0]))] H := hP
      have hD : va_D A [(ar, .inl (tr, 8, .inl f7)), (h0, .inr (8, [.int 0, .ref am, .ref ad, .ref ab, .int 0, .int 224, .ref ar, .int 0, .int 0, .int 0, .int 0, .int 0, .int 0, .ref az, .ref ae, .ref ao, .ref an, .ref au, .int 0, .int 0, .int 0, .ref ap, .ref aw, .int 0, .int 0, .int 0, .int 0, .int 0]))] := hD
      have hx8 : f7 (7 : Int32).toNatClampNeg = 1 := by first | assumption | omega
      have hx9 : f7 (6 : Int32).toNatClampNeg = 1024 := by first | assumption | omega
      have hP9 := hP.sub (ws' := [(h0, .inr (8, [.int 0, .ref am, .ref ad, .ref ab, .int 0, .int 224, .ref ar, .int 0, .int 0, .int 0, .int 0, .int 0, .int 0, .ref az, .ref ae, .ref ao, .ref an, .ref au, .int 0, .int 0, .int 0, .ref ap, .ref aw, .int 0, .int 0, .int 0, .int 0, .int 0])), (ar, .inl (tr, 8, .inl f7))]) [1, 0] rfl
      have hD9 := hD.sub (ws' := [(h0, .inr (8, [.int 0, .ref am, .ref ad, .ref ab, .int 0, .int 224, .ref ar, .int 0, .int 0, .int 0, .int 0, .int 0, .int 0, .ref az, .ref ae, .ref ao, .ref an, .ref au, .int 0, .int 0, .int 0, .ref ap, .ref aw, .int 0, .int 0, .int 0, .int 0, .int 0])), (ar, .inl (tr, 8, .inl f7))]) [1, 0] (by decide) rfl
      have hK9 := hK.sub (tys' := [(tr, .int)]) [0] rfl
      exact W.vret hx hb hr (fun t ht hW => ⟨⟨(f7), rfl, ⟨hx8, hx9⟩, by rw [ht]; exact hP9, va_K.moved hW.alike hK9, hD9⟩, hS.F ht⟩) hS.2.2 dX9_start_48
    · exact absurd c4 (by decide)
set_option maxHeartbeats 4000000 in
set_option maxRecDepth 100000 in
theorem c_m_mapped1 (l : Launch) (dC : Nat → ClassId) (dI : Nat → Nat → Nat) (h0 : Nat) (am : Nat) (ad : Nat) (ab : Nat) (ar : Nat) (az : Nat) (ae : Nat) (ao : Nat) (an : Nat) (au : Nat) (ap : Nat) (aw : Nat) (sz : Nat) : Met l yX9_mapped wsX9_mapped ({ frames := 0, cells := 0, slots := 0, locals := 0 } : Room) (va_Pc [.ref h0, .int 1, .int 0, .int 0] (fun U => U.heap.size = sz ∧ va_P (dC, dI) vwCl [(h0, .inr (8, [.int 0, .ref am, .ref ad, .ref ab, .int 0, .int 224, .ref ar, .int 0, .int 0, .int 0, .int 4, .int 0, .int 0, .ref az, .ref ae, .ref ao, .ref an, .ref au, .int 0, .int 0, .int 0, .ref ap, .ref aw, .int 0, .int 0, .int 0, .int 0, .int 0]))] U.heap ∧ va_K (dC, dI) vwCl [] U ∧ va_D (fun _ => True) [(h0, .inr (8, [.int 0, .ref am, .ref ad, .ref ab, .int 0, .int 224, .ref ar, .int 0, .int 0, .int 0, .int 4, .int 0, .int 0, .ref az, .ref ae, .ref ao, .ref an, .ref au, .int 0, .int 0, .int 0, .ref ap, .ref aw, .int 0, .int 0, .int 0, .int 0, .int 0]))])) (va_Qi (fun (r : Int32) (u : Unit) => (1 = r)) (fun (u : Unit) (t : State) => va_P (dC, dI) vwCl [(h0, .inr (8, [.int 0, .ref am, .ref ad, .ref ab, .int 0, .int 224, .ref ar, .int 0, .int 0, .int 0, .int 4, .int 0, .int 0, .ref az, .ref ae, .ref ao, .ref an, .ref au, .int 0, .int 0, .int 0, .ref ap, .ref aw, .int 0, .int 0, .int 0, .int 0, .int 0]))] t.heap ∧ va_K (dC, dI) vwCl [] t ∧ va_D (va_A [(h0, .inr (8, [.int 0, .ref am, .ref ad, .ref ab, .int 0, .int 224, .ref ar, .int 0, .int 0, .int 0, .int 4, .int 0, .int 0, .ref az, .ref ae, .ref ao, .ref an, .ref au, .int 0, .int 0, .int 0, .ref ap, .ref aw, .int 0, .int 0, .int 0, .int 0, .int 0]))] sz) [(h0, .inr (8, [.int 0, .ref am, .ref ad, .ref ab, .int 0, .int 224, .ref ar, .int 0, .int 0, .int 0, .int 4, .int 0, .int 0, .ref az, .ref ae, .ref ao, .ref an, .ref au, .int 0, .int 0, .int 0, .ref ap, .ref aw, .int 0, .int 0, .int 0, .int 0, .int 0]))]) (va_A [(h0, .inr (8, [.int 0, .ref am, .ref ad, .ref ab, .int 0, .int 224, .ref ar, .int 0, .int 0, .int 0, .int 4, .int 0, .int 0, .ref az, .ref ae, .ref ao, .ref an, .ref au, .int 0, .int 0, .int 0, .ref ap, .ref aw, .int 0, .int 0, .int 0, .int 0, .int 0]))] sz)) 0 0 (va_A [(h0, .inr (8, [.int 0, .ref am, .ref ad, .ref ab, .int 0, .int 224, .ref ar, .int 0, .int 0, .int 0, .int 4, .int 0, .int 0, .ref az, .ref ae, .ref ao, .ref an, .ref au, .int 0, .int 0, .int 0, .ref ap, .ref aw, .int 0, .int 0, .int 0, .int 0, .int 0]))] sz) := by
  refine Met.ofW (cc := cX9_mapped) (maxL := 8) (ret := (some .int)) (by decide) rfl ?_
  intro p e s m args below meth c s₁ B hml hv
  obtain ⟨rfl, hsz, hP, hK, hD0⟩ := hv
  have hx := B.exec
  have hb := B.bytes
  have hr := B.returns
  have hts := atoms_spec (ws := wsX9_mapped) B.pre
  have hown : s.vm.findClass RX9 = some m.cls := findClass_of_methodNamed B.named
  have hlocks := B.notSynchronized
  have hD := hD0.self (sz := sz)
  generalize hAe : va_A [(h0, .inr (8, [.int 0, .ref am, .ref ad, .ref ab, .int 0, .int 224, .ref ar, .int 0, .int 0, .int 0, .int 4, .int 0, .int 0, .ref az, .ref ae, .ref ao, .ref an, .ref au, .int 0, .int 0, .int 0, .ref ap, .ref aw, .int 0, .int 0, .int 0, .int 0, .int 0]))] sz = A at hD ⊢
  have hA : ∀ q : Nat, s.heap.size ≤ q → A q := fun q h => by rw [← hAe]; exact Or.inr (by omega)
  have hS0 : ∀ G : Heap, s.heap = G → va_S A s.heap G [] := fun G h => by subst h; exact va_S.rf
  generalize hHe : s.heap = H at hP ⊢
  have hS := hS0 H hHe
  have hP : va_P (dC, dI) vwCl [(h0, .inr (8, [.int 0, .ref am, .ref ad, .ref ab, .int 0, .int 224, .ref ar, .int 0, .int 0, .int 0, .int 4, .int 0, .int 0, .ref az, .ref ae, .ref ao, .ref an, .ref au, .int 0, .int 0, .int 0, .ref ap, .ref aw, .int 0, .int 0, .int 0, .int 0, .int 0]))] H := hP
  have hD : va_D A [(h0, .inr (8, [.int 0, .ref am, .ref ad, .ref ab, .int 0, .int 224, .ref ar, .int 0, .int 0, .int 0, .int 4, .int 0, .int 0, .ref az, .ref ae, .ref ao, .ref an, .ref au, .int 0, .int 0, .int 0, .ref ap, .ref aw, .int 0, .int 0, .int 0, .int 0, .int 0]))] := hD
  have hK : va_K (dC, dI) vwCl [] s := hK
  have hl := lv_entry ([.ref h0, .int 1, .int 0, .int 0]) (n := 8) (Nat.le_of_ble_eq_true rfl)
  rw [lg_entry_eq]
  generalize (lg_sl ([.ref h0, .int 1, .int 0, .int 0]) ++ List.replicate (8 - (lg_sl ([.ref h0, .int 1, .int 0, .int 0])).length) Slot.unset).toArray = ls at hl ⊢
  have hl : lv_has ls 8 [(0, .ref h0), (1, .int 1), (2, .int 0), (3, .int 0)] := hl
  refine lv_aload_n hx hb dX9_mapped_0 rfl (lv_at hl 0 rfl) ?_
  refine va_get (D := (dC, dI)) (ci := 8) (v := .int 4) (C := RX9) (T := TX9) (N := 28) hx hb hts (by decide +kernel) hown hK hP 0 rfl rfl 10 (by decide) (hts (.fieldLink RX9 87 "UnibusMachineModel" "wrong" "I") (by decide +kernel)) (fun _ h9 => h9) rfl dX9_mapped_1 ?_
  refine lv_if_gt (tgt := 16) hx hb dX9_mapped_4 (by decide) (fun c1 => ?_) (fun c1 => ?_)
  · skip
    refine lv_iload_n hx hb dX9_mapped_16 rfl (lv_at hl 1 rfl) ?_
    have hP9 := hP.sub (ws' := [(h0, .inr (8, [.int 0, .ref am, .ref ad, .ref ab, .int 0, .int 224, .ref ar, .int 0, .int 0, .int 0, .int 4, .int 0, .int 0, .ref az, .ref ae, .ref ao, .ref an, .ref au, .int 0, .int 0, .int 0, .ref ap, .ref aw, .int 0, .int 0, .int 0, .int 0, .int 0]))]) [0] rfl
    have hD9 := hD.sub (ws' := [(h0, .inr (8, [.int 0, .ref am, .ref ad, .ref ab, .int 0, .int 224, .ref ar, .int 0, .int 0, .int 0, .int 4, .int 0, .int 0, .ref az, .ref ae, .ref ao, .ref an, .ref au, .int 0, .int 0, .int 0, .ref ap, .ref aw, .int 0, .int 0, .int 0, .int 0, .int 0]))]) [0] (by decide) rfl
    have hK9 := hK.sub (tys' := []) [] rfl
    exact W.iret (v := 1) hx hb hr (fun t ht hW => ⟨⟨1, (), rfl, rfl, by rw [ht]; exact hP9, va_K.moved hW.alike hK9, hD9⟩, hS.F ht⟩) hS.2.2 dX9_mapped_17
  · exact absurd c1 (by decide)
set_option maxHeartbeats 4000000 in
set_option maxRecDepth 100000 in
theorem c_m_mapped (l : Launch) (dC : Nat → ClassId) (dI : Nat → Nat → Nat) (h0 : Nat) (am : Nat) (ad : Nat) (ab : Nat) (ar : Nat) (az : Nat) (ae : Nat) (ao : Nat) (an : Nat) (au : Nat) (ap : Nat) (aw : Nat) (a0 : Int32) (w0 : Int32) (sz : Nat) : Met l yX9_mapped wsX9_mapped ({ frames := 0, cells := 0, slots := 0, locals := 0 } : Room) (va_Pc [.ref h0, .int a0, .int 0, .int w0] (fun U => U.heap.size = sz ∧ va_P (dC, dI) vwCl [(h0, .inr (8, [.int 0, .ref am, .ref ad, .ref ab, .int 0, .int 224, .ref ar, .int 0, .int 0, .int 0, .int 0, .int 0, .int 0, .ref az, .ref ae, .ref ao, .ref an, .ref au, .int 0, .int 0, .int 0, .ref ap, .ref aw, .int 0, .int 0, .int 0, .int 0, .int 0]))] U.heap ∧ va_K (dC, dI) vwCl [] U ∧ va_D (fun _ => True) [(h0, .inr (8, [.int 0, .ref am, .ref ad, .ref ab, .int 0, .int 224, .ref ar, .int 0, .int 0, .int 0, .int 0, .int 0, .int 0, .ref az, .ref ae, .ref ao, .ref an, .ref au, .int 0, .int 0, .int 0, .ref ap, .ref aw, .int 0, .int 0, .int 0, .int 0, .int 0]))])) (va_Qi (fun (r : Int32) (u : Unit) => (a0 = r)) (fun (u : Unit) (t : State) => va_P (dC, dI) vwCl [(h0, .inr (8, [.int 0, .ref am, .ref ad, .ref ab, .int 0, .int 224, .ref ar, .int 0, .int 0, .int 0, .int 0, .int 0, .int 0, .ref az, .ref ae, .ref ao, .ref an, .ref au, .int 0, .int 0, .int 0, .ref ap, .ref aw, .int 0, .int 0, .int 0, .int 0, .int 0]))] t.heap ∧ va_K (dC, dI) vwCl [] t ∧ va_D (va_A [(h0, .inr (8, [.int 0, .ref am, .ref ad, .ref ab, .int 0, .int 224, .ref ar, .int 0, .int 0, .int 0, .int 0, .int 0, .int 0, .ref az, .ref ae, .ref ao, .ref an, .ref au, .int 0, .int 0, .int 0, .ref ap, .ref aw, .int 0, .int 0, .int 0, .int 0, .int 0]))] sz) [(h0, .inr (8, [.int 0, .ref am, .ref ad, .ref ab, .int 0, .int 224, .ref ar, .int 0, .int 0, .int 0, .int 0, .int 0, .int 0, .ref az, .ref ae, .ref ao, .ref an, .ref au, .int 0, .int 0, .int 0, .ref ap, .ref aw, .int 0, .int 0, .int 0, .int 0, .int 0]))]) (va_A [(h0, .inr (8, [.int 0, .ref am, .ref ad, .ref ab, .int 0, .int 224, .ref ar, .int 0, .int 0, .int 0, .int 0, .int 0, .int 0, .ref az, .ref ae, .ref ao, .ref an, .ref au, .int 0, .int 0, .int 0, .ref ap, .ref aw, .int 0, .int 0, .int 0, .int 0, .int 0]))] sz)) 0 0 (va_A [(h0, .inr (8, [.int 0, .ref am, .ref ad, .ref ab, .int 0, .int 224, .ref ar, .int 0, .int 0, .int 0, .int 0, .int 0, .int 0, .ref az, .ref ae, .ref ao, .ref an, .ref au, .int 0, .int 0, .int 0, .ref ap, .ref aw, .int 0, .int 0, .int 0, .int 0, .int 0]))] sz) := by
  refine Met.ofW (cc := cX9_mapped) (maxL := 8) (ret := (some .int)) (by decide) rfl ?_
  intro p e s m args below meth c s₁ B hml hv
  obtain ⟨rfl, hsz, hP, hK, hD0⟩ := hv
  have hx := B.exec
  have hb := B.bytes
  have hr := B.returns
  have hts := atoms_spec (ws := wsX9_mapped) B.pre
  have hown : s.vm.findClass RX9 = some m.cls := findClass_of_methodNamed B.named
  have hlocks := B.notSynchronized
  have hD := hD0.self (sz := sz)
  generalize hAe : va_A [(h0, .inr (8, [.int 0, .ref am, .ref ad, .ref ab, .int 0, .int 224, .ref ar, .int 0, .int 0, .int 0, .int 0, .int 0, .int 0, .ref az, .ref ae, .ref ao, .ref an, .ref au, .int 0, .int 0, .int 0, .ref ap, .ref aw, .int 0, .int 0, .int 0, .int 0, .int 0]))] sz = A at hD ⊢
  have hA : ∀ q : Nat, s.heap.size ≤ q → A q := fun q h => by rw [← hAe]; exact Or.inr (by omega)
  have hS0 : ∀ G : Heap, s.heap = G → va_S A s.heap G [] := fun G h => by subst h; exact va_S.rf
  generalize hHe : s.heap = H at hP ⊢
  have hS := hS0 H hHe
  have hP : va_P (dC, dI) vwCl [(h0, .inr (8, [.int 0, .ref am, .ref ad, .ref ab, .int 0, .int 224, .ref ar, .int 0, .int 0, .int 0, .int 0, .int 0, .int 0, .ref az, .ref ae, .ref ao, .ref an, .ref au, .int 0, .int 0, .int 0, .ref ap, .ref aw, .int 0, .int 0, .int 0, .int 0, .int 0]))] H := hP
  have hD : va_D A [(h0, .inr (8, [.int 0, .ref am, .ref ad, .ref ab, .int 0, .int 224, .ref ar, .int 0, .int 0, .int 0, .int 0, .int 0, .int 0, .ref az, .ref ae, .ref ao, .ref an, .ref au, .int 0, .int 0, .int 0, .ref ap, .ref aw, .int 0, .int 0, .int 0, .int 0, .int 0]))] := hD
  have hK : va_K (dC, dI) vwCl [] s := hK
  have hl := lv_entry ([.ref h0, .int a0, .int 0, .int w0]) (n := 8) (Nat.le_of_ble_eq_true rfl)
  rw [lg_entry_eq]
  generalize (lg_sl ([.ref h0, .int a0, .int 0, .int w0]) ++ List.replicate (8 - (lg_sl ([.ref h0, .int a0, .int 0, .int w0])).length) Slot.unset).toArray = ls at hl ⊢
  have hl : lv_has ls 8 [(0, .ref h0), (1, .int a0), (2, .int 0), (3, .int w0)] := hl
  refine lv_aload_n hx hb dX9_mapped_0 rfl (lv_at hl 0 rfl) ?_
  refine va_get (D := (dC, dI)) (ci := 8) (v := .int 0) (C := RX9) (T := TX9) (N := 28) hx hb hts (by decide +kernel) hown hK hP 0 rfl rfl 10 (by decide) (hts (.fieldLink RX9 87 "UnibusMachineModel" "wrong" "I") (by decide +kernel)) (fun _ h9 => h9) rfl dX9_mapped_1 ?_
  refine lv_if_gt (tgt := 16) hx hb dX9_mapped_4 (by decide) (fun c1 => ?_) (fun c1 => ?_)
  · exact absurd c1 (by decide)
  · skip
    refine lv_aload_n hx hb dX9_mapped_7 rfl (lv_at hl 0 rfl) ?_
    refine va_get (D := (dC, dI)) (ci := 8) (v := .int 0) (C := RX9) (T := TX9) (N := 28) hx hb hts (by decide +kernel) hown hK hP 0 rfl rfl 4 (by decide) (hts (.fieldLink RX9 65 "UnibusMachineModel" "control" "I") (by decide +kernel)) (fun _ h9 => h9) rfl dX9_mapped_8 ?_
    refine lv_iconst (v := 2) hx hb dX9_mapped_11 (by decide) ?_
    refine lv_irem hx hb dX9_mapped_12 (by decide) ?_
    refine lv_topi (fun y2 ey2 => ?_)
    obtain rfl : y2 = 0 := by rw [ey2]; decide
    refine lv_if_ne (tgt := 18) hx hb dX9_mapped_13 (by decide) (fun c3 => ?_) (fun c3 => ?_)
    · exact absurd c3 (by decide)
    · skip
      refine lv_iload_n hx hb dX9_mapped_16 rfl (lv_at hl 1 rfl) ?_
      have hP9 := hP.sub (ws' := [(h0, .inr (8, [.int 0, .ref am, .ref ad, .ref ab, .int 0, .int 224, .ref ar, .int 0, .int 0, .int 0, .int 0, .int 0, .int 0, .ref az, .ref ae, .ref ao, .ref an, .ref au, .int 0, .int 0, .int 0, .ref ap, .ref aw, .int 0, .int 0, .int 0, .int 0, .int 0]))]) [0] rfl
      have hD9 := hD.sub (ws' := [(h0, .inr (8, [.int 0, .ref am, .ref ad, .ref ab, .int 0, .int 224, .ref ar, .int 0, .int 0, .int 0, .int 0, .int 0, .int 0, .ref az, .ref ae, .ref ao, .ref an, .ref au, .int 0, .int 0, .int 0, .ref ap, .ref aw, .int 0, .int 0, .int 0, .int 0, .int 0]))]) [0] (by decide) rfl
      have hK9 := hK.sub (tys' := []) [] rfl
      exact W.iret (v := a0) hx hb hr (fun t ht hW => ⟨⟨a0, (), rfl, (by first | rfl | omega | assumption), by rw [ht]; exact hP9, va_K.moved hW.alike hK9, hD9⟩, hS.F ht⟩) hS.2.2 dX9_mapped_17
set_option maxHeartbeats 4000000 in
set_option maxRecDepth 100000 in
theorem c_m_read1 (l : Launch) (dC : Nat → ClassId) (dI : Nat → Nat → Nat) (h0 : Nat) (am : Nat) (ad : Nat) (ab : Nat) (ar : Nat) (az : Nat) (ae : Nat) (ao : Nat) (an : Nat) (au : Nat) (ap : Nat) (aw : Nat) (sz : Nat) : Met l yX9_read wsX9_read ({ frames := 0, cells := 0, slots := 0, locals := 0 } : Room) (va_Pc [.ref h0, .int 1] (fun U => U.heap.size = sz ∧ va_P (dC, dI) vwCl [(h0, .inr (8, [.int 0, .ref am, .ref ad, .ref ab, .int 0, .int 224, .ref ar, .int 0, .int 0, .int 0, .int 4, .int 0, .int 0, .ref az, .ref ae, .ref ao, .ref an, .ref au, .int 0, .int 0, .int 0, .ref ap, .ref aw, .int 0, .int 0, .int 0, .int 0, .int 0]))] U.heap ∧ va_K (dC, dI) vwCl [] U ∧ va_D (fun _ => True) [(h0, .inr (8, [.int 0, .ref am, .ref ad, .ref ab, .int 0, .int 224, .ref ar, .int 0, .int 0, .int 0, .int 4, .int 0, .int 0, .ref az, .ref ae, .ref ao, .ref an, .ref au, .int 0, .int 0, .int 0, .ref ap, .ref aw, .int 0, .int 0, .int 0, .int 0, .int 0]))])) (va_Qi (fun (r : Int32) (u : Unit) => (0 = r)) (fun (u : Unit) (t : State) => va_P (dC, dI) vwCl [(h0, .inr (8, [.int 0, .ref am, .ref ad, .ref ab, .int 0, .int 224, .ref ar, .int 0, .int 0, .int 0, .int 4, .int 0, .int 0, .ref az, .ref ae, .ref ao, .ref an, .ref au, .int 0, .int 0, .int 0, .ref ap, .ref aw, .int 0, .int 0, .int 0, .int 0, .int 0]))] t.heap ∧ va_K (dC, dI) vwCl [] t ∧ va_D (va_A [(h0, .inr (8, [.int 0, .ref am, .ref ad, .ref ab, .int 0, .int 224, .ref ar, .int 0, .int 0, .int 0, .int 4, .int 0, .int 0, .ref az, .ref ae, .ref ao, .ref an, .ref au, .int 0, .int 0, .int 0, .ref ap, .ref aw, .int 0, .int 0, .int 0, .int 0, .int 0]))] sz) [(h0, .inr (8, [.int 0, .ref am, .ref ad, .ref ab, .int 0, .int 224, .ref ar, .int 0, .int 0, .int 0, .int 4, .int 0, .int 0, .ref az, .ref ae, .ref ao, .ref an, .ref au, .int 0, .int 0, .int 0, .ref ap, .ref aw, .int 0, .int 0, .int 0, .int 0, .int 0]))]) (va_A [(h0, .inr (8, [.int 0, .ref am, .ref ad, .ref ab, .int 0, .int 224, .ref ar, .int 0, .int 0, .int 0, .int 4, .int 0, .int 0, .ref az, .ref ae, .ref ao, .ref an, .ref au, .int 0, .int 0, .int 0, .ref ap, .ref aw, .int 0, .int 0, .int 0, .int 0, .int 0]))] sz)) 0 0 (va_A [(h0, .inr (8, [.int 0, .ref am, .ref ad, .ref ab, .int 0, .int 224, .ref ar, .int 0, .int 0, .int 0, .int 4, .int 0, .int 0, .ref az, .ref ae, .ref ao, .ref an, .ref au, .int 0, .int 0, .int 0, .ref ap, .ref aw, .int 0, .int 0, .int 0, .int 0, .int 0]))] sz) := by
  refine Met.ofW (cc := cX9_read) (maxL := 3) (ret := (some .int)) (by decide) rfl ?_
  intro p e s m args below meth c s₁ B hml hv
  obtain ⟨rfl, hsz, hP, hK, hD0⟩ := hv
  have hx := B.exec
  have hb := B.bytes
  have hr := B.returns
  have hts := atoms_spec (ws := wsX9_read) B.pre
  have hown : s.vm.findClass RX9 = some m.cls := findClass_of_methodNamed B.named
  have hlocks := B.notSynchronized
  have hD := hD0.self (sz := sz)
  generalize hAe : va_A [(h0, .inr (8, [.int 0, .ref am, .ref ad, .ref ab, .int 0, .int 224, .ref ar, .int 0, .int 0, .int 0, .int 4, .int 0, .int 0, .ref az, .ref ae, .ref ao, .ref an, .ref au, .int 0, .int 0, .int 0, .ref ap, .ref aw, .int 0, .int 0, .int 0, .int 0, .int 0]))] sz = A at hD ⊢
  have hA : ∀ q : Nat, s.heap.size ≤ q → A q := fun q h => by rw [← hAe]; exact Or.inr (by omega)
  have hS0 : ∀ G : Heap, s.heap = G → va_S A s.heap G [] := fun G h => by subst h; exact va_S.rf
  generalize hHe : s.heap = H at hP ⊢
  have hS := hS0 H hHe
  have hP : va_P (dC, dI) vwCl [(h0, .inr (8, [.int 0, .ref am, .ref ad, .ref ab, .int 0, .int 224, .ref ar, .int 0, .int 0, .int 0, .int 4, .int 0, .int 0, .ref az, .ref ae, .ref ao, .ref an, .ref au, .int 0, .int 0, .int 0, .ref ap, .ref aw, .int 0, .int 0, .int 0, .int 0, .int 0]))] H := hP
  have hD : va_D A [(h0, .inr (8, [.int 0, .ref am, .ref ad, .ref ab, .int 0, .int 224, .ref ar, .int 0, .int 0, .int 0, .int 4, .int 0, .int 0, .ref az, .ref ae, .ref ao, .ref an, .ref au, .int 0, .int 0, .int 0, .ref ap, .ref aw, .int 0, .int 0, .int 0, .int 0, .int 0]))] := hD
  have hK : va_K (dC, dI) vwCl [] s := hK
  have hl := lv_entry ([.ref h0, .int 1]) (n := 3) (Nat.le_of_ble_eq_true rfl)
  rw [lg_entry_eq]
  generalize (lg_sl ([.ref h0, .int 1]) ++ List.replicate (3 - (lg_sl ([.ref h0, .int 1])).length) Slot.unset).toArray = ls at hl ⊢
  have hl : lv_has ls 3 [(0, .ref h0), (1, .int 1)] := hl
  refine lv_aload_n hx hb dX9_read_0 rfl (lv_at hl 0 rfl) ?_
  refine va_get (D := (dC, dI)) (ci := 8) (v := .int 4) (C := RX9) (T := TX9) (N := 28) hx hb hts (by decide +kernel) hown hK hP 0 rfl rfl 10 (by decide) (hts (.fieldLink RX9 87 "UnibusMachineModel" "wrong" "I") (by decide +kernel)) (fun _ h9 => h9) rfl dX9_read_1 ?_
  refine lv_if_le (tgt := 9) hx hb dX9_read_4 (by decide) (fun c1 => ?_) (fun c1 => ?_)
  · exact absurd c1 (by decide)
  · skip
    refine lv_iconst (v := 0) hx hb dX9_read_7 (by decide) ?_
    have hP9 := hP.sub (ws' := [(h0, .inr (8, [.int 0, .ref am, .ref ad, .ref ab, .int 0, .int 224, .ref ar, .int 0, .int 0, .int 0, .int 4, .int 0, .int 0, .ref az, .ref ae, .ref ao, .ref an, .ref au, .int 0, .int 0, .int 0, .ref ap, .ref aw, .int 0, .int 0, .int 0, .int 0, .int 0]))]) [0] rfl
    have hD9 := hD.sub (ws' := [(h0, .inr (8, [.int 0, .ref am, .ref ad, .ref ab, .int 0, .int 224, .ref ar, .int 0, .int 0, .int 0, .int 4, .int 0, .int 0, .ref az, .ref ae, .ref ao, .ref an, .ref au, .int 0, .int 0, .int 0, .ref ap, .ref aw, .int 0, .int 0, .int 0, .int 0, .int 0]))]) [0] (by decide) rfl
    have hK9 := hK.sub (tys' := []) [] rfl
    exact W.iret (v := 0) hx hb hr (fun t ht hW => ⟨⟨0, (), rfl, rfl, by rw [ht]; exact hP9, va_K.moved hW.alike hK9, hD9⟩, hS.F ht⟩) hS.2.2 dX9_read_8
set_option maxHeartbeats 4000000 in
set_option maxRecDepth 100000 in
theorem c_m_wordOdd (l : Launch) (dC : Nat → ClassId) (dI : Nat → Nat → Nat) (h0 : Nat) (am : Nat) (ad : Nat) (ab : Nat) (ar : Nat) (az : Nat) (ae : Nat) (ao : Nat) (an : Nat) (au : Nat) (ap : Nat) (aw : Nat) (sz : Nat) : Met l yX9_wordAt wsX9_wordAt ({ frames := 1, cells := 0, slots := 0, locals := 27 } : Room) (va_Pc [.ref h0, .int 1, .int 0] (fun U => U.heap.size = sz ∧ va_P (dC, dI) vwCl [(h0, .inr (8, [.int 0, .ref am, .ref ad, .ref ab, .int 0, .int 224, .ref ar, .int 0, .int 0, .int 0, .int 0, .int 0, .int 0, .ref az, .ref ae, .ref ao, .ref an, .ref au, .int 0, .int 0, .int 0, .ref ap, .ref aw, .int 0, .int 0, .int 0, .int 0, .int 0]))] U.heap ∧ va_K (dC, dI) vwCl [] U ∧ va_D (fun _ => True) [(h0, .inr (8, [.int 0, .ref am, .ref ad, .ref ab, .int 0, .int 224, .ref ar, .int 0, .int 0, .int 0, .int 0, .int 0, .int 0, .ref az, .ref ae, .ref ao, .ref an, .ref au, .int 0, .int 0, .int 0, .ref ap, .ref aw, .int 0, .int 0, .int 0, .int 0, .int 0]))])) (va_Qi (fun (r : Int32) (u : Unit) => (0 = r)) (fun (u : Unit) (t : State) => va_P (dC, dI) vwCl [(h0, .inr (8, [.int 0, .ref am, .ref ad, .ref ab, .int 0, .int 224, .ref ar, .int 0, .int 0, .int 0, .int 4, .int 0, .int 0, .ref az, .ref ae, .ref ao, .ref an, .ref au, .int 0, .int 0, .int 0, .ref ap, .ref aw, .int 0, .int 0, .int 0, .int 0, .int 0]))] t.heap ∧ va_K (dC, dI) vwCl [] t ∧ va_D (va_A [(h0, .inr (8, [.int 0, .ref am, .ref ad, .ref ab, .int 0, .int 224, .ref ar, .int 0, .int 0, .int 0, .int 0, .int 0, .int 0, .ref az, .ref ae, .ref ao, .ref an, .ref au, .int 0, .int 0, .int 0, .ref ap, .ref aw, .int 0, .int 0, .int 0, .int 0, .int 0]))] sz) [(h0, .inr (8, [.int 0, .ref am, .ref ad, .ref ab, .int 0, .int 224, .ref ar, .int 0, .int 0, .int 0, .int 4, .int 0, .int 0, .ref az, .ref ae, .ref ao, .ref an, .ref au, .int 0, .int 0, .int 0, .ref ap, .ref aw, .int 0, .int 0, .int 0, .int 0, .int 0]))]) (va_A [(h0, .inr (8, [.int 0, .ref am, .ref ad, .ref ab, .int 0, .int 224, .ref ar, .int 0, .int 0, .int 0, .int 0, .int 0, .int 0, .ref az, .ref ae, .ref ao, .ref an, .ref au, .int 0, .int 0, .int 0, .ref ap, .ref aw, .int 0, .int 0, .int 0, .int 0, .int 0]))] sz)) 0 0 (va_A [(h0, .inr (8, [.int 0, .ref am, .ref ad, .ref ab, .int 0, .int 224, .ref ar, .int 0, .int 0, .int 0, .int 0, .int 0, .int 0, .ref az, .ref ae, .ref ao, .ref an, .ref au, .int 0, .int 0, .int 0, .ref ap, .ref aw, .int 0, .int 0, .int 0, .int 0, .int 0]))] sz) := by
  refine Met.ofW (cc := cX9_wordAt) (maxL := 3) (ret := (some .int)) (by decide) rfl ?_
  intro p e s m args below meth c s₁ B hml hv
  obtain ⟨rfl, hsz, hP, hK, hD0⟩ := hv
  have hx := B.exec
  have hb := B.bytes
  have hr := B.returns
  have hts := atoms_spec (ws := wsX9_wordAt) B.pre
  have hown : s.vm.findClass RX9 = some m.cls := findClass_of_methodNamed B.named
  have hlocks := B.notSynchronized
  have hD := hD0.self (sz := sz)
  generalize hAe : va_A [(h0, .inr (8, [.int 0, .ref am, .ref ad, .ref ab, .int 0, .int 224, .ref ar, .int 0, .int 0, .int 0, .int 0, .int 0, .int 0, .ref az, .ref ae, .ref ao, .ref an, .ref au, .int 0, .int 0, .int 0, .ref ap, .ref aw, .int 0, .int 0, .int 0, .int 0, .int 0]))] sz = A at hD ⊢
  have hA : ∀ q : Nat, s.heap.size ≤ q → A q := fun q h => by rw [← hAe]; exact Or.inr (by omega)
  have hS0 : ∀ G : Heap, s.heap = G → va_S A s.heap G [] := fun G h => by subst h; exact va_S.rf
  generalize hHe : s.heap = H at hP ⊢
  have hS := hS0 H hHe
  have hP : va_P (dC, dI) vwCl [(h0, .inr (8, [.int 0, .ref am, .ref ad, .ref ab, .int 0, .int 224, .ref ar, .int 0, .int 0, .int 0, .int 0, .int 0, .int 0, .ref az, .ref ae, .ref ao, .ref an, .ref au, .int 0, .int 0, .int 0, .ref ap, .ref aw, .int 0, .int 0, .int 0, .int 0, .int 0]))] H := hP
  have hD : va_D A [(h0, .inr (8, [.int 0, .ref am, .ref ad, .ref ab, .int 0, .int 224, .ref ar, .int 0, .int 0, .int 0, .int 0, .int 0, .int 0, .ref az, .ref ae, .ref ao, .ref an, .ref au, .int 0, .int 0, .int 0, .ref ap, .ref aw, .int 0, .int 0, .int 0, .int 0, .int 0]))] := hD
  have hK : va_K (dC, dI) vwCl [] s := hK
  have hl := lv_entry ([.ref h0, .int 1, .int 0]) (n := 3) (Nat.le_of_ble_eq_true rfl)
  rw [lg_entry_eq]
  generalize (lg_sl ([.ref h0, .int 1, .int 0]) ++ List.replicate (3 - (lg_sl ([.ref h0, .int 1, .int 0])).length) Slot.unset).toArray = ls at hl ⊢
  have hl : lv_has ls 3 [(0, .ref h0), (1, .int 1), (2, .int 0)] := hl
  refine lv_aload_n hx hb dX9_wordAt_0 rfl (lv_at hl 0 rfl) ?_
  refine va_get (D := (dC, dI)) (ci := 8) (v := .int 0) (C := RX9) (T := TX9) (N := 28) hx hb hts (by decide +kernel) hown hK hP 0 rfl rfl 10 (by decide) (hts (.fieldLink RX9 87 "UnibusMachineModel" "wrong" "I") (by decide +kernel)) (fun _ h9 => h9) rfl dX9_wordAt_1 ?_
  refine lv_if_ne (tgt := 19) hx hb dX9_wordAt_4 (by decide) (fun c1 => ?_) (fun c1 => ?_)
  · exact absurd c1 (by decide)
  · skip
    refine lv_iload_n hx hb dX9_wordAt_7 rfl (lv_at hl 1 rfl) ?_
    refine lv_iconst (v := 2) hx hb dX9_wordAt_8 (by decide) ?_
    refine lv_irem hx hb dX9_wordAt_9 (by decide) ?_
    refine lv_topi (fun y2 ey2 => ?_)
    obtain rfl : y2 = 1 := by rw [ey2]; decide
    refine lv_iconst (v := 1) hx hb dX9_wordAt_10 (by decide) ?_
    refine lv_icmp_ne (tgt := 19) hx hb dX9_wordAt_11 (by decide) (fun c3 => ?_) (fun c3 => ?_)
    · exact absurd c3 (by decide)
    · skip
      refine lv_aload_n hx hb dX9_wordAt_14 rfl (lv_at hl 0 rfl) ?_
      refine lv_iconst (v := 4) hx hb dX9_wordAt_15 (by decide) ?_
      refine va_put (D := (dC, dI)) (ci := 8) (v := .int 4) (ty := .int) (C := RX9) (T := TX9) (N := 28) hx hb hts (by decide +kernel) tyX9 tyX9_ok nmX9 hown hK hP hD hS 0 rfl rfl 10 (by decide) (hts (.fieldLink RX9 87 "UnibusMachineModel" "wrong" "I") (by decide +kernel)) (fun _ h9 => h9) rfl (by decide +kernel) rfl rfl (Nat.le_of_ble_eq_true rfl) dX9_wordAt_16 (fun H locs hP hD hS => ?_)
      have hP : va_P (dC, dI) vwCl [(h0, .inr (8, [.int 0, .ref am, .ref ad, .ref ab, .int 0, .int 224, .ref ar, .int 0, .int 0, .int 0, .int 4, .int 0, .int 0, .ref az, .ref ae, .ref ao, .ref an, .ref au, .int 0, .int 0, .int 0, .ref ap, .ref aw, .int 0, .int 0, .int 0, .int 0, .int 0]))] H := hP
      have hD : va_D A [(h0, .inr (8, [.int 0, .ref am, .ref ad, .ref ab, .int 0, .int 224, .ref ar, .int 0, .int 0, .int 0, .int 4, .int 0, .int 0, .ref az, .ref ae, .ref ao, .ref an, .ref au, .int 0, .int 0, .int 0, .ref ap, .ref aw, .int 0, .int 0, .int 0, .int 0, .int 0]))] := hD
      refine lv_aload_n hx hb dX9_wordAt_19 rfl (lv_at hl 0 rfl) ?_
      refine lv_aload_n hx hb dX9_wordAt_20 rfl (lv_at hl 0 rfl) ?_
      refine lv_iload_n hx hb dX9_wordAt_21 rfl (lv_at hl 1 rfl) ?_
      refine lv_iload_n hx hb dX9_wordAt_22 rfl (lv_at hl 2 rfl) ?_
      refine lv_iconst (v := 0) hx hb dX9_wordAt_23 (by decide) ?_
      have hPc := hP.sub (ws' := [(h0, .inr (8, [.int 0, .ref am, .ref ad, .ref ab, .int 0, .int 224, .ref ar, .int 0, .int 0, .int 0, .int 4, .int 0, .int 0, .ref az, .ref ae, .ref ao, .ref an, .ref au, .int 0, .int 0, .int 0, .ref ap, .ref aw, .int 0, .int 0, .int 0, .int 0, .int 0]))]) [0] rfl
      have hDc := hD.sub (ws' := [(h0, .inr (8, [.int 0, .ref am, .ref ad, .ref ab, .int 0, .int 224, .ref ar, .int 0, .int 0, .int 0, .int 4, .int 0, .int 0, .ref az, .ref ae, .ref ao, .ref an, .ref au, .int 0, .int 0, .int 0, .ref ap, .ref aw, .int 0, .int 0, .int 0, .int 0, .int 0]))]) [0] (by decide) rfl
      have hKc := hK.sub (tys' := []) [] rfl
      have hFc := va_free (wc := [(h0, .inr (8, [.int 0, .ref am, .ref ad, .ref ab, .int 0, .int 224, .ref ar, .int 0, .int 0, .int 0, .int 4, .int 0, .int 0, .ref az, .ref ae, .ref ao, .ref an, .ref au, .int 0, .int 0, .int 0, .ref ap, .ref aw, .int 0, .int 0, .int 0, .int 0, .int 0]))]) hD hS hA [0] rfl
      refine va_calli (va_runV (As := [.int 1, .int 0, .int 0]) (rest := [.ref h0]) ⟨hx, hb, hml, hown, hts⟩ (c_m_mapped1 l dC dI h0 am ad ab ar az ae ao an au ap aw H.size) (cwV 3 hts gX9_wordAt_X9_mapped rfl rfl rfl (by decide +kernel) ⟨Nat.le_of_ble_eq_true rfl, Nat.le_of_ble_eq_true rfl⟩) ⟨fun a U g mk q => by obtain ⟨q0, q1, qP, qK, qD⟩ := q; exact ⟨q0, q1, qP, va_K.moved (u := U) (U := U.calling g mk a) (Vm.Alike.refl U.vm) qK, qD⟩, va_recv hKc hPc (ci := 8) (q0 := 0) rfl rfl, fun U hU hW => ⟨rfl, by rw [hU], by rw [hU]; exact hPc, va_K.moved hW.alike hKc, hDc.weaken (fun _ _ _ _ => trivial)⟩⟩ rfl rfl hl.1 rfl (lv_room (Nat.le_of_ble_eq_true rfl)) dX9_wordAt_24 ⟨Nat.le_of_ble_eq_true rfl, Nat.le_of_ble_eq_true rfl⟩) hS (fun q _ h => hFc q h) hFc (fun r4 u5 t H1 locs ht hvm hw hB hz1 hk1 hS => ?_)
      obtain ⟨hP1, hK1, hD1⟩ := hB
      rw [ht] at hP1
      have hK1 := va_K.moved hvm.symm hK1
      try dsimp only at hw
      obtain ⟨hP, hD⟩ := va_join (wr := []) (w1 := [(h0, .inr (8, [.int 0, .ref am, .ref ad, .ref ab, .int 0, .int 224, .ref ar, .int 0, .int 0, .int 0, .int 4, .int 0, .int 0, .ref az, .ref ae, .ref ao, .ref an, .ref au, .int 0, .int 0, .int 0, .ref ap, .ref aw, .int 0, .int 0, .int 0, .int 0, .int 0]))]) hP hD [0] [] rfl rfl (by decide) (by decide) hk1 hFc hP1 hD1
      have hK := (hK.sub (tys' := []) [] rfl).app hK1
      generalize H1 = H at hP hS ⊢
      have hP : va_P (dC, dI) vwCl [(h0, .inr (8, [.int 0, .ref am, .ref ad, .ref ab, .int 0, .int 224, .ref ar, .int 0, .int 0, .int 0, .int 4, .int 0, .int 0, .ref az, .ref ae, .ref ao, .ref an, .ref au, .int 0, .int 0, .int 0, .ref ap, .ref aw, .int 0, .int 0, .int 0, .int 0, .int 0]))] H := hP
      have hD : va_D A [(h0, .inr (8, [.int 0, .ref am, .ref ad, .ref ab, .int 0, .int 224, .ref ar, .int 0, .int 0, .int 0, .int 4, .int 0, .int 0, .ref az, .ref ae, .ref ao, .ref an, .ref au, .int 0, .int 0, .int 0, .ref ap, .ref aw, .int 0, .int 0, .int 0, .int 0, .int 0]))] := hD
      have hK : va_K (dC, dI) vwCl [] s := hK
      refine W.widen (k := 0) (n := 0) (Nat.le_of_ble_eq_true rfl) (Nat.le_of_ble_eq_true rfl) ?_
      obtain rfl := hw
      have hPc := hP.sub (ws' := [(h0, .inr (8, [.int 0, .ref am, .ref ad, .ref ab, .int 0, .int 224, .ref ar, .int 0, .int 0, .int 0, .int 4, .int 0, .int 0, .ref az, .ref ae, .ref ao, .ref an, .ref au, .int 0, .int 0, .int 0, .ref ap, .ref aw, .int 0, .int 0, .int 0, .int 0, .int 0]))]) [0] rfl
      have hDc := hD.sub (ws' := [(h0, .inr (8, [.int 0, .ref am, .ref ad, .ref ab, .int 0, .int 224, .ref ar, .int 0, .int 0, .int 0, .int 4, .int 0, .int 0, .ref az, .ref ae, .ref ao, .ref an, .ref au, .int 0, .int 0, .int 0, .ref ap, .ref aw, .int 0, .int 0, .int 0, .int 0, .int 0]))]) [0] (by decide) rfl
      have hKc := hK.sub (tys' := []) [] rfl
      have hFc := va_free (wc := [(h0, .inr (8, [.int 0, .ref am, .ref ad, .ref ab, .int 0, .int 224, .ref ar, .int 0, .int 0, .int 0, .int 4, .int 0, .int 0, .ref az, .ref ae, .ref ao, .ref an, .ref au, .int 0, .int 0, .int 0, .ref ap, .ref aw, .int 0, .int 0, .int 0, .int 0, .int 0]))]) hD hS hA [0] rfl
      refine va_calli (va_runV (As := [.int 1]) (rest := []) ⟨hx, hb, hml, hown, hts⟩ (c_m_read1 l dC dI h0 am ad ab ar az ae ao an au ap aw H.size) (cwV 1 hts gX9_wordAt_X9_read rfl rfl rfl (by decide +kernel) ⟨Nat.le_of_ble_eq_true rfl, Nat.le_of_ble_eq_true rfl⟩) ⟨fun a U g mk q => by obtain ⟨q0, q1, qP, qK, qD⟩ := q; exact ⟨q0, q1, qP, va_K.moved (u := U) (U := U.calling g mk a) (Vm.Alike.refl U.vm) qK, qD⟩, va_recv hKc hPc (ci := 8) (q0 := 0) rfl rfl, fun U hU hW => ⟨rfl, by rw [hU], by rw [hU]; exact hPc, va_K.moved hW.alike hKc, hDc.weaken (fun _ _ _ _ => trivial)⟩⟩ rfl rfl hl.1 rfl (lv_room (Nat.le_of_ble_eq_true rfl)) dX9_wordAt_27 ⟨Nat.le_of_ble_eq_true rfl, Nat.le_of_ble_eq_true rfl⟩) hS (fun q _ h => hFc q h) hFc (fun r6 u7 t H1 locs ht hvm hw hB hz1 hk1 hS => ?_)
      obtain ⟨hP1, hK1, hD1⟩ := hB
      rw [ht] at hP1
      have hK1 := va_K.moved hvm.symm hK1
      try dsimp only at hw
      obtain ⟨hP, hD⟩ := va_join (wr := []) (w1 := [(h0, .inr (8, [.int 0, .ref am, .ref ad, .ref ab, .int 0, .int 224, .ref ar, .int 0, .int 0, .int 0, .int 4, .int 0, .int 0, .ref az, .ref ae, .ref ao, .ref an, .ref au, .int 0, .int 0, .int 0, .ref ap, .ref aw, .int 0, .int 0, .int 0, .int 0, .int 0]))]) hP hD [0] [] rfl rfl (by decide) (by decide) hk1 hFc hP1 hD1
      have hK := (hK.sub (tys' := []) [] rfl).app hK1
      generalize H1 = H at hP hS ⊢
      have hP : va_P (dC, dI) vwCl [(h0, .inr (8, [.int 0, .ref am, .ref ad, .ref ab, .int 0, .int 224, .ref ar, .int 0, .int 0, .int 0, .int 4, .int 0, .int 0, .ref az, .ref ae, .ref ao, .ref an, .ref au, .int 0, .int 0, .int 0, .ref ap, .ref aw, .int 0, .int 0, .int 0, .int 0, .int 0]))] H := hP
      have hD : va_D A [(h0, .inr (8, [.int 0, .ref am, .ref ad, .ref ab, .int 0, .int 224, .ref ar, .int 0, .int 0, .int 0, .int 4, .int 0, .int 0, .ref az, .ref ae, .ref ao, .ref an, .ref au, .int 0, .int 0, .int 0, .ref ap, .ref aw, .int 0, .int 0, .int 0, .int 0, .int 0]))] := hD
      have hK : va_K (dC, dI) vwCl [] s := hK
      refine W.widen (k := 0) (n := 0) (Nat.le_of_ble_eq_true rfl) (Nat.le_of_ble_eq_true rfl) ?_
      obtain rfl := hw
      have hP9 := hP.sub (ws' := [(h0, .inr (8, [.int 0, .ref am, .ref ad, .ref ab, .int 0, .int 224, .ref ar, .int 0, .int 0, .int 0, .int 4, .int 0, .int 0, .ref az, .ref ae, .ref ao, .ref an, .ref au, .int 0, .int 0, .int 0, .ref ap, .ref aw, .int 0, .int 0, .int 0, .int 0, .int 0]))]) [0] rfl
      have hD9 := hD.sub (ws' := [(h0, .inr (8, [.int 0, .ref am, .ref ad, .ref ab, .int 0, .int 224, .ref ar, .int 0, .int 0, .int 0, .int 4, .int 0, .int 0, .ref az, .ref ae, .ref ao, .ref an, .ref au, .int 0, .int 0, .int 0, .ref ap, .ref aw, .int 0, .int 0, .int 0, .int 0, .int 0]))]) [0] (by decide) rfl
      have hK9 := hK.sub (tys' := []) [] rfl
      exact W.iret (v := 0) hx hb hr (fun t ht hW => ⟨⟨0, (), rfl, rfl, by rw [ht]; exact hP9, va_K.moved hW.alike hK9, hD9⟩, hS.F ht⟩) hS.2.2 dX9_wordAt_30
set_option maxHeartbeats 4000000 in
set_option maxRecDepth 100000 in
theorem c_m_at4 (l : Launch) (dC : Nat → ClassId) (dI : Nat → Nat → Nat) (h0 : Nat) (am : Nat) (ad : Nat) (ab : Nat) (ar : Nat) (az : Nat) (ae : Nat) (ao : Nat) (an : Nat) (au : Nat) (ap : Nat) (aw : Nat) (tm : ClassId) (f : Nat → Int32) (sz : Nat) (hF0 : f (2 : Int32).toNatClampNeg = 1) : Met l yX9_at wsX9_at ({ frames := 0, cells := 0, slots := 0, locals := 0 } : Room) (va_Pc [.ref h0, .int 4] (fun U => U.heap.size = sz ∧ va_P (dC, dI) vwCl [(h0, .inr (8, [.int 0, .ref am, .ref ad, .ref ab, .int 0, .int 224, .ref ar, .int 0, .int 0, .int 0, .int 0, .int 0, .int 0, .ref az, .ref ae, .ref ao, .ref an, .ref au, .int 0, .int 0, .int 0, .ref ap, .ref aw, .int 0, .int 0, .int 0, .int 0, .int 0])), (am, .inl (tm, 512, .inl f))] U.heap ∧ va_K (dC, dI) vwCl [(tm, .int)] U ∧ va_D (fun _ => True) [(h0, .inr (8, [.int 0, .ref am, .ref ad, .ref ab, .int 0, .int 224, .ref ar, .int 0, .int 0, .int 0, .int 0, .int 0, .int 0, .ref az, .ref ae, .ref ao, .ref an, .ref au, .int 0, .int 0, .int 0, .ref ap, .ref aw, .int 0, .int 0, .int 0, .int 0, .int 0])), (am, .inl (tm, 512, .inl f))])) (va_Qi (fun (r : Int32) (u : Unit) => (1 = r)) (fun (u : Unit) (t : State) => va_P (dC, dI) vwCl [(h0, .inr (8, [.int 0, .ref am, .ref ad, .ref ab, .int 0, .int 224, .ref ar, .int 0, .int 0, .int 0, .int 0, .int 0, .int 0, .ref az, .ref ae, .ref ao, .ref an, .ref au, .int 0, .int 0, .int 0, .ref ap, .ref aw, .int 0, .int 0, .int 0, .int 0, .int 0])), (am, .inl (tm, 512, .inl f))] t.heap ∧ va_K (dC, dI) vwCl [(tm, .int)] t ∧ va_D (va_A [(h0, .inr (8, [.int 0, .ref am, .ref ad, .ref ab, .int 0, .int 224, .ref ar, .int 0, .int 0, .int 0, .int 0, .int 0, .int 0, .ref az, .ref ae, .ref ao, .ref an, .ref au, .int 0, .int 0, .int 0, .ref ap, .ref aw, .int 0, .int 0, .int 0, .int 0, .int 0])), (am, .inl (tm, 512, .inl f))] sz) [(h0, .inr (8, [.int 0, .ref am, .ref ad, .ref ab, .int 0, .int 224, .ref ar, .int 0, .int 0, .int 0, .int 0, .int 0, .int 0, .ref az, .ref ae, .ref ao, .ref an, .ref au, .int 0, .int 0, .int 0, .ref ap, .ref aw, .int 0, .int 0, .int 0, .int 0, .int 0])), (am, .inl (tm, 512, .inl f))]) (va_A [(h0, .inr (8, [.int 0, .ref am, .ref ad, .ref ab, .int 0, .int 224, .ref ar, .int 0, .int 0, .int 0, .int 0, .int 0, .int 0, .ref az, .ref ae, .ref ao, .ref an, .ref au, .int 0, .int 0, .int 0, .ref ap, .ref aw, .int 0, .int 0, .int 0, .int 0, .int 0])), (am, .inl (tm, 512, .inl f))] sz)) 0 0 (va_A [(h0, .inr (8, [.int 0, .ref am, .ref ad, .ref ab, .int 0, .int 224, .ref ar, .int 0, .int 0, .int 0, .int 0, .int 0, .int 0, .ref az, .ref ae, .ref ao, .ref an, .ref au, .int 0, .int 0, .int 0, .ref ap, .ref aw, .int 0, .int 0, .int 0, .int 0, .int 0])), (am, .inl (tm, 512, .inl f))] sz) := by
  refine Met.ofW (cc := cX9_at) (maxL := 3) (ret := (some .int)) (by decide) rfl ?_
  intro p e s m args below meth c s₁ B hml hv
  obtain ⟨rfl, hsz, hP, hK, hD0⟩ := hv
  have hx := B.exec
  have hb := B.bytes
  have hr := B.returns
  have hts := atoms_spec (ws := wsX9_at) B.pre
  have hown : s.vm.findClass RX9 = some m.cls := findClass_of_methodNamed B.named
  have hlocks := B.notSynchronized
  have hD := hD0.self (sz := sz)
  generalize hAe : va_A [(h0, .inr (8, [.int 0, .ref am, .ref ad, .ref ab, .int 0, .int 224, .ref ar, .int 0, .int 0, .int 0, .int 0, .int 0, .int 0, .ref az, .ref ae, .ref ao, .ref an, .ref au, .int 0, .int 0, .int 0, .ref ap, .ref aw, .int 0, .int 0, .int 0, .int 0, .int 0])), (am, .inl (tm, 512, .inl f))] sz = A at hD ⊢
  have hA : ∀ q : Nat, s.heap.size ≤ q → A q := fun q h => by rw [← hAe]; exact Or.inr (by omega)
  have hS0 : ∀ G : Heap, s.heap = G → va_S A s.heap G [] := fun G h => by subst h; exact va_S.rf
  generalize hHe : s.heap = H at hP ⊢
  have hS := hS0 H hHe
  have hP : va_P (dC, dI) vwCl [(h0, .inr (8, [.int 0, .ref am, .ref ad, .ref ab, .int 0, .int 224, .ref ar, .int 0, .int 0, .int 0, .int 0, .int 0, .int 0, .ref az, .ref ae, .ref ao, .ref an, .ref au, .int 0, .int 0, .int 0, .ref ap, .ref aw, .int 0, .int 0, .int 0, .int 0, .int 0])), (am, .inl (tm, 512, .inl f))] H := hP
  have hD : va_D A [(h0, .inr (8, [.int 0, .ref am, .ref ad, .ref ab, .int 0, .int 224, .ref ar, .int 0, .int 0, .int 0, .int 0, .int 0, .int 0, .ref az, .ref ae, .ref ao, .ref an, .ref au, .int 0, .int 0, .int 0, .ref ap, .ref aw, .int 0, .int 0, .int 0, .int 0, .int 0])), (am, .inl (tm, 512, .inl f))] := hD
  have hK : va_K (dC, dI) vwCl [(tm, .int)] s := hK
  have hl := lv_entry ([.ref h0, .int 4]) (n := 3) (Nat.le_of_ble_eq_true rfl)
  rw [lg_entry_eq]
  generalize (lg_sl ([.ref h0, .int 4]) ++ List.replicate (3 - (lg_sl ([.ref h0, .int 4])).length) Slot.unset).toArray = ls at hl ⊢
  have hl : lv_has ls 3 [(0, .ref h0), (1, .int 4)] := hl
  refine lv_iload_n hx hb dX9_at_0 rfl (lv_at hl 1 rfl) ?_
  refine lv_sipush (v := 1024) hx hb dX9_at_1 (by decide) ?_
  refine lv_icmp_ge (tgt := 16) hx hb dX9_at_4 (by decide) (fun c1 => ?_) (fun c1 => ?_)
  · exact absurd c1 (by decide)
  · skip
    refine lv_aload_n hx hb dX9_at_7 rfl (lv_at hl 0 rfl) ?_
    refine va_get (D := (dC, dI)) (ci := 8) (v := .ref am) (C := RX9) (T := TX9) (N := 28) hx hb hts (by decide +kernel) hown hK hP 0 rfl rfl 1 (by decide) (hts (.fieldLink RX9 7 "UnibusMachineModel" "memory" "[I") (by decide +kernel)) (fun _ h9 => h9) rfl dX9_at_8 ?_
    refine lv_iload_n hx hb dX9_at_11 rfl (lv_at hl 1 rfl) ?_
    refine lv_iconst (v := 2) hx hb dX9_at_12 (by decide) ?_
    refine lv_idiv hx hb dX9_at_13 (by decide) ?_
    refine lv_topi (fun y2 ey2 => ?_)
    obtain rfl : y2 = 2 := by rw [ey2]; decide
    refine va_iald (D := (dC, dI)) hx hb hK hP 1 0 rfl rfl (vp_in_iff.mpr (by decide)) dX9_at_14 ?_
    refine lv_topi (fun y3 ey3 => ?_)
    obtain rfl : y3 = 1 := by rw [ey3]; assumption
    have hP9 := hP.sub (ws' := [(h0, .inr (8, [.int 0, .ref am, .ref ad, .ref ab, .int 0, .int 224, .ref ar, .int 0, .int 0, .int 0, .int 0, .int 0, .int 0, .ref az, .ref ae, .ref ao, .ref an, .ref au, .int 0, .int 0, .int 0, .ref ap, .ref aw, .int 0, .int 0, .int 0, .int 0, .int 0])), (am, .inl (tm, 512, .inl f))]) [0, 1] rfl
    have hD9 := hD.sub (ws' := [(h0, .inr (8, [.int 0, .ref am, .ref ad, .ref ab, .int 0, .int 224, .ref ar, .int 0, .int 0, .int 0, .int 0, .int 0, .int 0, .ref az, .ref ae, .ref ao, .ref an, .ref au, .int 0, .int 0, .int 0, .ref ap, .ref aw, .int 0, .int 0, .int 0, .int 0, .int 0])), (am, .inl (tm, 512, .inl f))]) [0, 1] (by decide) rfl
    have hK9 := hK.sub (tys' := [(tm, .int)]) [0] rfl
    exact W.iret (v := 1) hx hb hr (fun t ht hW => ⟨⟨1, (), rfl, rfl, by rw [ht]; exact hP9, va_K.moved hW.alike hK9, hD9⟩, hS.F ht⟩) hS.2.2 dX9_at_15
set_option maxHeartbeats 4000000 in
set_option maxRecDepth 100000 in
theorem c_m_read4 (l : Launch) (dC : Nat → ClassId) (dI : Nat → Nat → Nat) (h0 : Nat) (am : Nat) (ad : Nat) (ab : Nat) (ar : Nat) (az : Nat) (ae : Nat) (ao : Nat) (an : Nat) (au : Nat) (ap : Nat) (aw : Nat) (tm : ClassId) (f : Nat → Int32) (sz : Nat) (hF0 : f (2 : Int32).toNatClampNeg = 1) : Met l yX9_read wsX9_read ({ frames := 1, cells := 0, slots := 0, locals := 22 } : Room) (va_Pc [.ref h0, .int 4] (fun U => U.heap.size = sz ∧ va_P (dC, dI) vwCl [(h0, .inr (8, [.int 0, .ref am, .ref ad, .ref ab, .int 0, .int 224, .ref ar, .int 0, .int 0, .int 0, .int 0, .int 0, .int 0, .ref az, .ref ae, .ref ao, .ref an, .ref au, .int 0, .int 0, .int 0, .ref ap, .ref aw, .int 0, .int 0, .int 0, .int 0, .int 0])), (am, .inl (tm, 512, .inl f))] U.heap ∧ va_K (dC, dI) vwCl [(tm, .int)] U ∧ va_D (fun _ => True) [(h0, .inr (8, [.int 0, .ref am, .ref ad, .ref ab, .int 0, .int 224, .ref ar, .int 0, .int 0, .int 0, .int 0, .int 0, .int 0, .ref az, .ref ae, .ref ao, .ref an, .ref au, .int 0, .int 0, .int 0, .ref ap, .ref aw, .int 0, .int 0, .int 0, .int 0, .int 0])), (am, .inl (tm, 512, .inl f))])) (va_Qi (fun (r : Int32) (u : Unit) => (1 = r)) (fun (u : Unit) (t : State) => va_P (dC, dI) vwCl [(h0, .inr (8, [.int 0, .ref am, .ref ad, .ref ab, .int 0, .int 224, .ref ar, .int 0, .int 0, .int 0, .int 0, .int 0, .int 0, .ref az, .ref ae, .ref ao, .ref an, .ref au, .int 0, .int 0, .int 0, .ref ap, .ref aw, .int 0, .int 0, .int 0, .int 0, .int 0])), (am, .inl (tm, 512, .inl f))] t.heap ∧ va_K (dC, dI) vwCl [(tm, .int)] t ∧ va_D (va_A [(h0, .inr (8, [.int 0, .ref am, .ref ad, .ref ab, .int 0, .int 224, .ref ar, .int 0, .int 0, .int 0, .int 0, .int 0, .int 0, .ref az, .ref ae, .ref ao, .ref an, .ref au, .int 0, .int 0, .int 0, .ref ap, .ref aw, .int 0, .int 0, .int 0, .int 0, .int 0])), (am, .inl (tm, 512, .inl f))] sz) [(h0, .inr (8, [.int 0, .ref am, .ref ad, .ref ab, .int 0, .int 224, .ref ar, .int 0, .int 0, .int 0, .int 0, .int 0, .int 0, .ref az, .ref ae, .ref ao, .ref an, .ref au, .int 0, .int 0, .int 0, .ref ap, .ref aw, .int 0, .int 0, .int 0, .int 0, .int 0])), (am, .inl (tm, 512, .inl f))]) (va_A [(h0, .inr (8, [.int 0, .ref am, .ref ad, .ref ab, .int 0, .int 224, .ref ar, .int 0, .int 0, .int 0, .int 0, .int 0, .int 0, .ref az, .ref ae, .ref ao, .ref an, .ref au, .int 0, .int 0, .int 0, .ref ap, .ref aw, .int 0, .int 0, .int 0, .int 0, .int 0])), (am, .inl (tm, 512, .inl f))] sz)) 0 0 (va_A [(h0, .inr (8, [.int 0, .ref am, .ref ad, .ref ab, .int 0, .int 224, .ref ar, .int 0, .int 0, .int 0, .int 0, .int 0, .int 0, .ref az, .ref ae, .ref ao, .ref an, .ref au, .int 0, .int 0, .int 0, .ref ap, .ref aw, .int 0, .int 0, .int 0, .int 0, .int 0])), (am, .inl (tm, 512, .inl f))] sz) := by
  refine Met.ofW (cc := cX9_read) (maxL := 3) (ret := (some .int)) (by decide) rfl ?_
  intro p e s m args below meth c s₁ B hml hv
  obtain ⟨rfl, hsz, hP, hK, hD0⟩ := hv
  have hx := B.exec
  have hb := B.bytes
  have hr := B.returns
  have hts := atoms_spec (ws := wsX9_read) B.pre
  have hown : s.vm.findClass RX9 = some m.cls := findClass_of_methodNamed B.named
  have hlocks := B.notSynchronized
  have hD := hD0.self (sz := sz)
  generalize hAe : va_A [(h0, .inr (8, [.int 0, .ref am, .ref ad, .ref ab, .int 0, .int 224, .ref ar, .int 0, .int 0, .int 0, .int 0, .int 0, .int 0, .ref az, .ref ae, .ref ao, .ref an, .ref au, .int 0, .int 0, .int 0, .ref ap, .ref aw, .int 0, .int 0, .int 0, .int 0, .int 0])), (am, .inl (tm, 512, .inl f))] sz = A at hD ⊢
  have hA : ∀ q : Nat, s.heap.size ≤ q → A q := fun q h => by rw [← hAe]; exact Or.inr (by omega)
  have hS0 : ∀ G : Heap, s.heap = G → va_S A s.heap G [] := fun G h => by subst h; exact va_S.rf
  generalize hHe : s.heap = H at hP ⊢
  have hS := hS0 H hHe
  have hP : va_P (dC, dI) vwCl [(h0, .inr (8, [.int 0, .ref am, .ref ad, .ref ab, .int 0, .int 224, .ref ar, .int 0, .int 0, .int 0, .int 0, .int 0, .int 0, .ref az, .ref ae, .ref ao, .ref an, .ref au, .int 0, .int 0, .int 0, .ref ap, .ref aw, .int 0, .int 0, .int 0, .int 0, .int 0])), (am, .inl (tm, 512, .inl f))] H := hP
  have hD : va_D A [(h0, .inr (8, [.int 0, .ref am, .ref ad, .ref ab, .int 0, .int 224, .ref ar, .int 0, .int 0, .int 0, .int 0, .int 0, .int 0, .ref az, .ref ae, .ref ao, .ref an, .ref au, .int 0, .int 0, .int 0, .ref ap, .ref aw, .int 0, .int 0, .int 0, .int 0, .int 0])), (am, .inl (tm, 512, .inl f))] := hD
  have hK : va_K (dC, dI) vwCl [(tm, .int)] s := hK
  have hl := lv_entry ([.ref h0, .int 4]) (n := 3) (Nat.le_of_ble_eq_true rfl)
  rw [lg_entry_eq]
  generalize (lg_sl ([.ref h0, .int 4]) ++ List.replicate (3 - (lg_sl ([.ref h0, .int 4])).length) Slot.unset).toArray = ls at hl ⊢
  have hl : lv_has ls 3 [(0, .ref h0), (1, .int 4)] := hl
  refine lv_aload_n hx hb dX9_read_0 rfl (lv_at hl 0 rfl) ?_
  refine va_get (D := (dC, dI)) (ci := 8) (v := .int 0) (C := RX9) (T := TX9) (N := 28) hx hb hts (by decide +kernel) hown hK hP 0 rfl rfl 10 (by decide) (hts (.fieldLink RX9 87 "UnibusMachineModel" "wrong" "I") (by decide +kernel)) (fun _ h9 => h9) rfl dX9_read_1 ?_
  refine lv_if_le (tgt := 9) hx hb dX9_read_4 (by decide) (fun c1 => ?_) (fun c1 => ?_)
  · skip
    refine lv_aload_n hx hb dX9_read_9 rfl (lv_at hl 0 rfl) ?_
    refine lv_iload_n hx hb dX9_read_10 rfl (lv_at hl 1 rfl) ?_
    have hPc := hP.sub (ws' := [(h0, .inr (8, [.int 0, .ref am, .ref ad, .ref ab, .int 0, .int 224, .ref ar, .int 0, .int 0, .int 0, .int 0, .int 0, .int 0, .ref az, .ref ae, .ref ao, .ref an, .ref au, .int 0, .int 0, .int 0, .ref ap, .ref aw, .int 0, .int 0, .int 0, .int 0, .int 0])), (am, .inl (tm, 512, .inl f))]) [0, 1] rfl
    have hDc := hD.sub (ws' := [(h0, .inr (8, [.int 0, .ref am, .ref ad, .ref ab, .int 0, .int 224, .ref ar, .int 0, .int 0, .int 0, .int 0, .int 0, .int 0, .ref az, .ref ae, .ref ao, .ref an, .ref au, .int 0, .int 0, .int 0, .ref ap, .ref aw, .int 0, .int 0, .int 0, .int 0, .int 0])), (am, .inl (tm, 512, .inl f))]) [0, 1] (by decide) rfl
    have hKc := hK.sub (tys' := [(tm, .int)]) [0] rfl
    have hFc := va_free (wc := [(h0, .inr (8, [.int 0, .ref am, .ref ad, .ref ab, .int 0, .int 224, .ref ar, .int 0, .int 0, .int 0, .int 0, .int 0, .int 0, .ref az, .ref ae, .ref ao, .ref an, .ref au, .int 0, .int 0, .int 0, .ref ap, .ref aw, .int 0, .int 0, .int 0, .int 0, .int 0])), (am, .inl (tm, 512, .inl f))]) hD hS hA [0, 1] rfl
    refine va_calli (va_runV (As := [.int 4]) (rest := []) ⟨hx, hb, hml, hown, hts⟩ (c_m_at4 l dC dI h0 am ad ab ar az ae ao an au ap aw tm f H.size (by first | assumption | omega | decide)) (cwV 1 hts gX9_read_X9_at rfl rfl rfl (by decide +kernel) ⟨Nat.le_of_ble_eq_true rfl, Nat.le_of_ble_eq_true rfl⟩) ⟨fun a U g mk q => by obtain ⟨q0, q1, qP, qK, qD⟩ := q; exact ⟨q0, q1, qP, va_K.moved (u := U) (U := U.calling g mk a) (Vm.Alike.refl U.vm) qK, qD⟩, va_recv hKc hPc (ci := 8) (q0 := 0) rfl rfl, fun U hU hW => ⟨rfl, by rw [hU], by rw [hU]; exact hPc, va_K.moved hW.alike hKc, hDc.weaken (fun _ _ _ _ => trivial)⟩⟩ rfl rfl hl.1 rfl (lv_room (Nat.le_of_ble_eq_true rfl)) dX9_read_11 ⟨Nat.le_of_ble_eq_true rfl, Nat.le_of_ble_eq_true rfl⟩) hS (fun q _ h => hFc q h) hFc (fun r2 u3 t H1 locs ht hvm hw hB hz1 hk1 hS => ?_)
    obtain ⟨hP1, hK1, hD1⟩ := hB
    rw [ht] at hP1
    have hK1 := va_K.moved hvm.symm hK1
    try dsimp only at hw
    obtain ⟨hP, hD⟩ := va_join (wr := []) (w1 := [(h0, .inr (8, [.int 0, .ref am, .ref ad, .ref ab, .int 0, .int 224, .ref ar, .int 0, .int 0, .int 0, .int 0, .int 0, .int 0, .ref az, .ref ae, .ref ao, .ref an, .ref au, .int 0, .int 0, .int 0, .ref ap, .ref aw, .int 0, .int 0, .int 0, .int 0, .int 0])), (am, .inl (tm, 512, .inl f))]) hP hD [0, 1] [] rfl rfl (by decide) (by decide) hk1 hFc hP1 hD1
    have hK := (hK.sub (tys' := []) [] rfl).app hK1
    generalize H1 = H at hP hS ⊢
    have hP : va_P (dC, dI) vwCl [(h0, .inr (8, [.int 0, .ref am, .ref ad, .ref ab, .int 0, .int 224, .ref ar, .int 0, .int 0, .int 0, .int 0, .int 0, .int 0, .ref az, .ref ae, .ref ao, .ref an, .ref au, .int 0, .int 0, .int 0, .ref ap, .ref aw, .int 0, .int 0, .int 0, .int 0, .int 0])), (am, .inl (tm, 512, .inl f))] H := hP
    have hD : va_D A [(h0, .inr (8, [.int 0, .ref am, .ref ad, .ref ab, .int 0, .int 224, .ref ar, .int 0, .int 0, .int 0, .int 0, .int 0, .int 0, .ref az, .ref ae, .ref ao, .ref an, .ref au, .int 0, .int 0, .int 0, .ref ap, .ref aw, .int 0, .int 0, .int 0, .int 0, .int 0])), (am, .inl (tm, 512, .inl f))] := hD
    have hK : va_K (dC, dI) vwCl [(tm, .int)] s := hK
    refine W.widen (k := 0) (n := 0) (Nat.le_of_ble_eq_true rfl) (Nat.le_of_ble_eq_true rfl) ?_
    obtain rfl := hw
    refine lv_istore_n (lv' := [(2, .int 1), (0, .ref h0), (1, .int 4)]) hx hb dX9_read_14 rfl hl (by decide) rfl (fun ls hl => ?_)
    refine lv_iload_n hx hb dX9_read_15 rfl (lv_at hl 0 rfl) ?_
    refine lv_if_ge (tgt := 24) hx hb dX9_read_16 (by decide) (fun c4 => ?_) (fun c4 => ?_)
    · skip
      refine lv_iload_n hx hb dX9_read_24 rfl (lv_at hl 2 rfl) ?_
      refine lv_ldc (v := 57426) hx hb hown (hts (.constant RX9 93 (57426)) (by decide +kernel)) dX9_read_25 ?_
      refine lv_icmp_ne (tgt := 37) hx hb dX9_read_27 (by decide) (fun c5 => ?_) (fun c5 => ?_)
      · skip
        refine lv_iload_n hx hb dX9_read_37 rfl (lv_at hl 0 rfl) ?_
        refine lv_if_ge (tgt := 45) hx hb dX9_read_38 (by decide) (fun c6 => ?_) (fun c6 => ?_)
        · skip
          refine lv_iload_n hx hb dX9_read_45 rfl (lv_at hl 0 rfl) ?_
          have hP9 := hP.sub (ws' := [(h0, .inr (8, [.int 0, .ref am, .ref ad, .ref ab, .int 0, .int 224, .ref ar, .int 0, .int 0, .int 0, .int 0, .int 0, .int 0, .ref az, .ref ae, .ref ao, .ref an, .ref au, .int 0, .int 0, .int 0, .ref ap, .ref aw, .int 0, .int 0, .int 0, .int 0, .int 0])), (am, .inl (tm, 512, .inl f))]) [0, 1] rfl
          have hD9 := hD.sub (ws' := [(h0, .inr (8, [.int 0, .ref am, .ref ad, .ref ab, .int 0, .int 224, .ref ar, .int 0, .int 0, .int 0, .int 0, .int 0, .int 0, .ref az, .ref ae, .ref ao, .ref an, .ref au, .int 0, .int 0, .int 0, .ref ap, .ref aw, .int 0, .int 0, .int 0, .int 0, .int 0])), (am, .inl (tm, 512, .inl f))]) [0, 1] (by decide) rfl
          have hK9 := hK.sub (tys' := [(tm, .int)]) [0] rfl
          exact W.iret (v := 1) hx hb hr (fun t ht hW => ⟨⟨1, (), rfl, rfl, by rw [ht]; exact hP9, va_K.moved hW.alike hK9, hD9⟩, hS.F ht⟩) hS.2.2 dX9_read_46
        · exact absurd c6 (by decide)
      · exact absurd c5 (by decide)
    · exact absurd c4 (by decide)
  · exact absurd c1 (by decide)
set_option maxHeartbeats 4000000 in
set_option maxRecDepth 100000 in
theorem c_m_wordAt4 (l : Launch) (dC : Nat → ClassId) (dI : Nat → Nat → Nat) (h0 : Nat) (am : Nat) (ad : Nat) (ab : Nat) (ar : Nat) (az : Nat) (ae : Nat) (ao : Nat) (an : Nat) (au : Nat) (ap : Nat) (aw : Nat) (tm : ClassId) (f : Nat → Int32) (sz : Nat) (hF0 : f (2 : Int32).toNatClampNeg = 1) : Met l yX9_wordAt wsX9_wordAt ({ frames := 2, cells := 0, slots := 0, locals := 44 } : Room) (va_Pc [.ref h0, .int 4, .int 0] (fun U => U.heap.size = sz ∧ va_P (dC, dI) vwCl [(h0, .inr (8, [.int 0, .ref am, .ref ad, .ref ab, .int 0, .int 224, .ref ar, .int 0, .int 0, .int 0, .int 0, .int 0, .int 0, .ref az, .ref ae, .ref ao, .ref an, .ref au, .int 0, .int 0, .int 0, .ref ap, .ref aw, .int 0, .int 0, .int 0, .int 0, .int 0])), (am, .inl (tm, 512, .inl f))] U.heap ∧ va_K (dC, dI) vwCl [(tm, .int)] U ∧ va_D (fun _ => True) [(h0, .inr (8, [.int 0, .ref am, .ref ad, .ref ab, .int 0, .int 224, .ref ar, .int 0, .int 0, .int 0, .int 0, .int 0, .int 0, .ref az, .ref ae, .ref ao, .ref an, .ref au, .int 0, .int 0, .int 0, .ref ap, .ref aw, .int 0, .int 0, .int 0, .int 0, .int 0])), (am, .inl (tm, 512, .inl f))])) (va_Qi (fun (r : Int32) (u : Unit) => (1 = r)) (fun (u : Unit) (t : State) => va_P (dC, dI) vwCl [(h0, .inr (8, [.int 0, .ref am, .ref ad, .ref ab, .int 0, .int 224, .ref ar, .int 0, .int 0, .int 0, .int 0, .int 0, .int 0, .ref az, .ref ae, .ref ao, .ref an, .ref au, .int 0, .int 0, .int 0, .ref ap, .ref aw, .int 0, .int 0, .int 0, .int 0, .int 0])), (am, .inl (tm, 512, .inl f))] t.heap ∧ va_K (dC, dI) vwCl [(tm, .int)] t ∧ va_D (va_A [(h0, .inr (8, [.int 0, .ref am, .ref ad, .ref ab, .int 0, .int 224, .ref ar, .int 0, .int 0, .int 0, .int 0, .int 0, .int 0, .ref az, .ref ae, .ref ao, .ref an, .ref au, .int 0, .int 0, .int 0, .ref ap, .ref aw, .int 0, .int 0, .int 0, .int 0, .int 0])), (am, .inl (tm, 512, .inl f))] sz) [(h0, .inr (8, [.int 0, .ref am, .ref ad, .ref ab, .int 0, .int 224, .ref ar, .int 0, .int 0, .int 0, .int 0, .int 0, .int 0, .ref az, .ref ae, .ref ao, .ref an, .ref au, .int 0, .int 0, .int 0, .ref ap, .ref aw, .int 0, .int 0, .int 0, .int 0, .int 0])), (am, .inl (tm, 512, .inl f))]) (va_A [(h0, .inr (8, [.int 0, .ref am, .ref ad, .ref ab, .int 0, .int 224, .ref ar, .int 0, .int 0, .int 0, .int 0, .int 0, .int 0, .ref az, .ref ae, .ref ao, .ref an, .ref au, .int 0, .int 0, .int 0, .ref ap, .ref aw, .int 0, .int 0, .int 0, .int 0, .int 0])), (am, .inl (tm, 512, .inl f))] sz)) 0 0 (va_A [(h0, .inr (8, [.int 0, .ref am, .ref ad, .ref ab, .int 0, .int 224, .ref ar, .int 0, .int 0, .int 0, .int 0, .int 0, .int 0, .ref az, .ref ae, .ref ao, .ref an, .ref au, .int 0, .int 0, .int 0, .ref ap, .ref aw, .int 0, .int 0, .int 0, .int 0, .int 0])), (am, .inl (tm, 512, .inl f))] sz) := by
  refine Met.ofW (cc := cX9_wordAt) (maxL := 3) (ret := (some .int)) (by decide) rfl ?_
  intro p e s m args below meth c s₁ B hml hv
  obtain ⟨rfl, hsz, hP, hK, hD0⟩ := hv
  have hx := B.exec
  have hb := B.bytes
  have hr := B.returns
  have hts := atoms_spec (ws := wsX9_wordAt) B.pre
  have hown : s.vm.findClass RX9 = some m.cls := findClass_of_methodNamed B.named
  have hlocks := B.notSynchronized
  have hD := hD0.self (sz := sz)
  generalize hAe : va_A [(h0, .inr (8, [.int 0, .ref am, .ref ad, .ref ab, .int 0, .int 224, .ref ar, .int 0, .int 0, .int 0, .int 0, .int 0, .int 0, .ref az, .ref ae, .ref ao, .ref an, .ref au, .int 0, .int 0, .int 0, .ref ap, .ref aw, .int 0, .int 0, .int 0, .int 0, .int 0])), (am, .inl (tm, 512, .inl f))] sz = A at hD ⊢
  have hA : ∀ q : Nat, s.heap.size ≤ q → A q := fun q h => by rw [← hAe]; exact Or.inr (by omega)
  have hS0 : ∀ G : Heap, s.heap = G → va_S A s.heap G [] := fun G h => by subst h; exact va_S.rf
  generalize hHe : s.heap = H at hP ⊢
  have hS := hS0 H hHe
  have hP : va_P (dC, dI) vwCl [(h0, .inr (8, [.int 0, .ref am, .ref ad, .ref ab, .int 0, .int 224, .ref ar, .int 0, .int 0, .int 0, .int 0, .int 0, .int 0, .ref az, .ref ae, .ref ao, .ref an, .ref au, .int 0, .int 0, .int 0, .ref ap, .ref aw, .int 0, .int 0, .int 0, .int 0, .int 0])), (am, .inl (tm, 512, .inl f))] H := hP
  have hD : va_D A [(h0, .inr (8, [.int 0, .ref am, .ref ad, .ref ab, .int 0, .int 224, .ref ar, .int 0, .int 0, .int 0, .int 0, .int 0, .int 0, .ref az, .ref ae, .ref ao, .ref an, .ref au, .int 0, .int 0, .int 0, .ref ap, .ref aw, .int 0, .int 0, .int 0, .int 0, .int 0])), (am, .inl (tm, 512, .inl f))] := hD
  have hK : va_K (dC, dI) vwCl [(tm, .int)] s := hK
  have hl := lv_entry ([.ref h0, .int 4, .int 0]) (n := 3) (Nat.le_of_ble_eq_true rfl)
  rw [lg_entry_eq]
  generalize (lg_sl ([.ref h0, .int 4, .int 0]) ++ List.replicate (3 - (lg_sl ([.ref h0, .int 4, .int 0])).length) Slot.unset).toArray = ls at hl ⊢
  have hl : lv_has ls 3 [(0, .ref h0), (1, .int 4), (2, .int 0)] := hl
  refine lv_aload_n hx hb dX9_wordAt_0 rfl (lv_at hl 0 rfl) ?_
  refine va_get (D := (dC, dI)) (ci := 8) (v := .int 0) (C := RX9) (T := TX9) (N := 28) hx hb hts (by decide +kernel) hown hK hP 0 rfl rfl 10 (by decide) (hts (.fieldLink RX9 87 "UnibusMachineModel" "wrong" "I") (by decide +kernel)) (fun _ h9 => h9) rfl dX9_wordAt_1 ?_
  refine lv_if_ne (tgt := 19) hx hb dX9_wordAt_4 (by decide) (fun c1 => ?_) (fun c1 => ?_)
  · exact absurd c1 (by decide)
  · skip
    refine lv_iload_n hx hb dX9_wordAt_7 rfl (lv_at hl 1 rfl) ?_
    refine lv_iconst (v := 2) hx hb dX9_wordAt_8 (by decide) ?_
    refine lv_irem hx hb dX9_wordAt_9 (by decide) ?_
    refine lv_topi (fun y2 ey2 => ?_)
    obtain rfl : y2 = 0 := by rw [ey2]; decide
    refine lv_iconst (v := 1) hx hb dX9_wordAt_10 (by decide) ?_
    refine lv_icmp_ne (tgt := 19) hx hb dX9_wordAt_11 (by decide) (fun c3 => ?_) (fun c3 => ?_)
    · skip
      refine lv_aload_n hx hb dX9_wordAt_19 rfl (lv_at hl 0 rfl) ?_
      refine lv_aload_n hx hb dX9_wordAt_20 rfl (lv_at hl 0 rfl) ?_
      refine lv_iload_n hx hb dX9_wordAt_21 rfl (lv_at hl 1 rfl) ?_
      refine lv_iload_n hx hb dX9_wordAt_22 rfl (lv_at hl 2 rfl) ?_
      refine lv_iconst (v := 0) hx hb dX9_wordAt_23 (by decide) ?_
      have hPc := hP.sub (ws' := [(h0, .inr (8, [.int 0, .ref am, .ref ad, .ref ab, .int 0, .int 224, .ref ar, .int 0, .int 0, .int 0, .int 0, .int 0, .int 0, .ref az, .ref ae, .ref ao, .ref an, .ref au, .int 0, .int 0, .int 0, .ref ap, .ref aw, .int 0, .int 0, .int 0, .int 0, .int 0]))]) [0] rfl
      have hDc := hD.sub (ws' := [(h0, .inr (8, [.int 0, .ref am, .ref ad, .ref ab, .int 0, .int 224, .ref ar, .int 0, .int 0, .int 0, .int 0, .int 0, .int 0, .ref az, .ref ae, .ref ao, .ref an, .ref au, .int 0, .int 0, .int 0, .ref ap, .ref aw, .int 0, .int 0, .int 0, .int 0, .int 0]))]) [0] (by decide) rfl
      have hKc := hK.sub (tys' := []) [] rfl
      have hFc := va_free (wc := [(h0, .inr (8, [.int 0, .ref am, .ref ad, .ref ab, .int 0, .int 224, .ref ar, .int 0, .int 0, .int 0, .int 0, .int 0, .int 0, .ref az, .ref ae, .ref ao, .ref an, .ref au, .int 0, .int 0, .int 0, .ref ap, .ref aw, .int 0, .int 0, .int 0, .int 0, .int 0]))]) hD hS hA [0] rfl
      refine va_calli (va_runV (As := [.int 4, .int 0, .int 0]) (rest := [.ref h0]) ⟨hx, hb, hml, hown, hts⟩ (c_m_mapped l dC dI h0 am ad ab ar az ae ao an au ap aw 4 0 H.size) (cwV 3 hts gX9_wordAt_X9_mapped rfl rfl rfl (by decide +kernel) ⟨Nat.le_of_ble_eq_true rfl, Nat.le_of_ble_eq_true rfl⟩) ⟨fun a U g mk q => by obtain ⟨q0, q1, qP, qK, qD⟩ := q; exact ⟨q0, q1, qP, va_K.moved (u := U) (U := U.calling g mk a) (Vm.Alike.refl U.vm) qK, qD⟩, va_recv hKc hPc (ci := 8) (q0 := 0) rfl rfl, fun U hU hW => ⟨rfl, by rw [hU], by rw [hU]; exact hPc, va_K.moved hW.alike hKc, hDc.weaken (fun _ _ _ _ => trivial)⟩⟩ rfl rfl hl.1 rfl (lv_room (Nat.le_of_ble_eq_true rfl)) dX9_wordAt_24 ⟨Nat.le_of_ble_eq_true rfl, Nat.le_of_ble_eq_true rfl⟩) hS (fun q _ h => hFc q h) hFc (fun r4 u5 t H1 locs ht hvm hw hB hz1 hk1 hS => ?_)
      obtain ⟨hP1, hK1, hD1⟩ := hB
      rw [ht] at hP1
      have hK1 := va_K.moved hvm.symm hK1
      try dsimp only at hw
      obtain ⟨hP, hD⟩ := va_join (wr := [(am, .inl (tm, 512, .inl f))]) (w1 := [(h0, .inr (8, [.int 0, .ref am, .ref ad, .ref ab, .int 0, .int 224, .ref ar, .int 0, .int 0, .int 0, .int 0, .int 0, .int 0, .ref az, .ref ae, .ref ao, .ref an, .ref au, .int 0, .int 0, .int 0, .ref ap, .ref aw, .int 0, .int 0, .int 0, .int 0, .int 0]))]) hP hD [0] [1] rfl rfl (by decide) (by decide) hk1 hFc hP1 hD1
      have hK := (hK.sub (tys' := [(tm, .int)]) [0] rfl).app hK1
      generalize H1 = H at hP hS ⊢
      have hP : va_P (dC, dI) vwCl [(am, .inl (tm, 512, .inl f)), (h0, .inr (8, [.int 0, .ref am, .ref ad, .ref ab, .int 0, .int 224, .ref ar, .int 0, .int 0, .int 0, .int 0, .int 0, .int 0, .ref az, .ref ae, .ref ao, .ref an, .ref au, .int 0, .int 0, .int 0, .ref ap, .ref aw, .int 0, .int 0, .int 0, .int 0, .int 0]))] H := hP
      have hD : va_D A [(am, .inl (tm, 512, .inl f)), (h0, .inr (8, [.int 0, .ref am, .ref ad, .ref ab, .int 0, .int 224, .ref ar, .int 0, .int 0, .int 0, .int 0, .int 0, .int 0, .ref az, .ref ae, .ref ao, .ref an, .ref au, .int 0, .int 0, .int 0, .ref ap, .ref aw, .int 0, .int 0, .int 0, .int 0, .int 0]))] := hD
      have hK : va_K (dC, dI) vwCl [(tm, .int)] s := hK
      refine W.widen (k := 0) (n := 0) (Nat.le_of_ble_eq_true rfl) (Nat.le_of_ble_eq_true rfl) ?_
      obtain rfl := hw
      have hPc := hP.sub (ws' := [(h0, .inr (8, [.int 0, .ref am, .ref ad, .ref ab, .int 0, .int 224, .ref ar, .int 0, .int 0, .int 0, .int 0, .int 0, .int 0, .ref az, .ref ae, .ref ao, .ref an, .ref au, .int 0, .int 0, .int 0, .ref ap, .ref aw, .int 0, .int 0, .int 0, .int 0, .int 0])), (am, .inl (tm, 512, .inl f))]) [1, 0] rfl
      have hDc := hD.sub (ws' := [(h0, .inr (8, [.int 0, .ref am, .ref ad, .ref ab, .int 0, .int 224, .ref ar, .int 0, .int 0, .int 0, .int 0, .int 0, .int 0, .ref az, .ref ae, .ref ao, .ref an, .ref au, .int 0, .int 0, .int 0, .ref ap, .ref aw, .int 0, .int 0, .int 0, .int 0, .int 0])), (am, .inl (tm, 512, .inl f))]) [1, 0] (by decide) rfl
      have hKc := hK.sub (tys' := [(tm, .int)]) [0] rfl
      have hFc := va_free (wc := [(h0, .inr (8, [.int 0, .ref am, .ref ad, .ref ab, .int 0, .int 224, .ref ar, .int 0, .int 0, .int 0, .int 0, .int 0, .int 0, .ref az, .ref ae, .ref ao, .ref an, .ref au, .int 0, .int 0, .int 0, .ref ap, .ref aw, .int 0, .int 0, .int 0, .int 0, .int 0])), (am, .inl (tm, 512, .inl f))]) hD hS hA [1, 0] rfl
      refine va_calli (va_runV (As := [.int 4]) (rest := []) ⟨hx, hb, hml, hown, hts⟩ (c_m_read4 l dC dI h0 am ad ab ar az ae ao an au ap aw tm f H.size (by first | assumption | omega | decide)) (cwV 1 hts gX9_wordAt_X9_read rfl rfl rfl (by decide +kernel) ⟨Nat.le_of_ble_eq_true rfl, Nat.le_of_ble_eq_true rfl⟩) ⟨fun a U g mk q => by obtain ⟨q0, q1, qP, qK, qD⟩ := q; exact ⟨q0, q1, qP, va_K.moved (u := U) (U := U.calling g mk a) (Vm.Alike.refl U.vm) qK, qD⟩, va_recv hKc hPc (ci := 8) (q0 := 0) rfl rfl, fun U hU hW => ⟨rfl, by rw [hU], by rw [hU]; exact hPc, va_K.moved hW.alike hKc, hDc.weaken (fun _ _ _ _ => trivial)⟩⟩ rfl rfl hl.1 rfl (lv_room (Nat.le_of_ble_eq_true rfl)) dX9_wordAt_27 ⟨Nat.le_of_ble_eq_true rfl, Nat.le_of_ble_eq_true rfl⟩) hS (fun q _ h => hFc q h) hFc (fun r6 u7 t H1 locs ht hvm hw hB hz1 hk1 hS => ?_)
      obtain ⟨hP1, hK1, hD1⟩ := hB
      rw [ht] at hP1
      have hK1 := va_K.moved hvm.symm hK1
      try dsimp only at hw
      obtain ⟨hP, hD⟩ := va_join (wr := []) (w1 := [(h0, .inr (8, [.int 0, .ref am, .ref ad, .ref ab, .int 0, .int 224, .ref ar, .int 0, .int 0, .int 0, .int 0, .int 0, .int 0, .ref az, .ref ae, .ref ao, .ref an, .ref au, .int 0, .int 0, .int 0, .ref ap, .ref aw, .int 0, .int 0, .int 0, .int 0, .int 0])), (am, .inl (tm, 512, .inl f))]) hP hD [1, 0] [] rfl rfl (by decide) (by decide) hk1 hFc hP1 hD1
      have hK := (hK.sub (tys' := []) [] rfl).app hK1
      generalize H1 = H at hP hS ⊢
      have hP : va_P (dC, dI) vwCl [(h0, .inr (8, [.int 0, .ref am, .ref ad, .ref ab, .int 0, .int 224, .ref ar, .int 0, .int 0, .int 0, .int 0, .int 0, .int 0, .ref az, .ref ae, .ref ao, .ref an, .ref au, .int 0, .int 0, .int 0, .ref ap, .ref aw, .int 0, .int 0, .int 0, .int 0, .int 0])), (am, .inl (tm, 512, .inl f))] H := hP
      have hD : va_D A [(h0, .inr (8, [.int 0, .ref am, .ref ad, .ref ab, .int 0, .int 224, .ref ar, .int 0, .int 0, .int 0, .int 0, .int 0, .int 0, .ref az, .ref ae, .ref ao, .ref an, .ref au, .int 0, .int 0, .int 0, .ref ap, .ref aw, .int 0, .int 0, .int 0, .int 0, .int 0])), (am, .inl (tm, 512, .inl f))] := hD
      have hK : va_K (dC, dI) vwCl [(tm, .int)] s := hK
      refine W.widen (k := 0) (n := 0) (Nat.le_of_ble_eq_true rfl) (Nat.le_of_ble_eq_true rfl) ?_
      obtain rfl := hw
      have hP9 := hP.sub (ws' := [(h0, .inr (8, [.int 0, .ref am, .ref ad, .ref ab, .int 0, .int 224, .ref ar, .int 0, .int 0, .int 0, .int 0, .int 0, .int 0, .ref az, .ref ae, .ref ao, .ref an, .ref au, .int 0, .int 0, .int 0, .ref ap, .ref aw, .int 0, .int 0, .int 0, .int 0, .int 0])), (am, .inl (tm, 512, .inl f))]) [0, 1] rfl
      have hD9 := hD.sub (ws' := [(h0, .inr (8, [.int 0, .ref am, .ref ad, .ref ab, .int 0, .int 224, .ref ar, .int 0, .int 0, .int 0, .int 0, .int 0, .int 0, .ref az, .ref ae, .ref ao, .ref an, .ref au, .int 0, .int 0, .int 0, .ref ap, .ref aw, .int 0, .int 0, .int 0, .int 0, .int 0])), (am, .inl (tm, 512, .inl f))]) [0, 1] (by decide) rfl
      have hK9 := hK.sub (tys' := [(tm, .int)]) [0] rfl
      exact W.iret (v := 1) hx hb hr (fun t ht hW => ⟨⟨1, (), rfl, rfl, by rw [ht]; exact hP9, va_K.moved hW.alike hK9, hD9⟩, hS.F ht⟩) hS.2.2 dX9_wordAt_30
    · exact absurd c3 (by decide)
set_option maxHeartbeats 4000000 in
set_option maxRecDepth 100000 in
theorem c_m_at6 (l : Launch) (dC : Nat → ClassId) (dI : Nat → Nat → Nat) (h0 : Nat) (am : Nat) (ad : Nat) (ab : Nat) (ar : Nat) (az : Nat) (ae : Nat) (ao : Nat) (an : Nat) (au : Nat) (ap : Nat) (aw : Nat) (tm : ClassId) (f : Nat → Int32) (sz : Nat) (hF0 : f (3 : Int32).toNatClampNeg = 224) : Met l yX9_at wsX9_at ({ frames := 0, cells := 0, slots := 0, locals := 0 } : Room) (va_Pc [.ref h0, .int 6] (fun U => U.heap.size = sz ∧ va_P (dC, dI) vwCl [(h0, .inr (8, [.int 0, .ref am, .ref ad, .ref ab, .int 0, .int 224, .ref ar, .int 0, .int 0, .int 0, .int 0, .int 0, .int 0, .ref az, .ref ae, .ref ao, .ref an, .ref au, .int 0, .int 0, .int 0, .ref ap, .ref aw, .int 0, .int 0, .int 0, .int 0, .int 0])), (am, .inl (tm, 512, .inl f))] U.heap ∧ va_K (dC, dI) vwCl [(tm, .int)] U ∧ va_D (fun _ => True) [(h0, .inr (8, [.int 0, .ref am, .ref ad, .ref ab, .int 0, .int 224, .ref ar, .int 0, .int 0, .int 0, .int 0, .int 0, .int 0, .ref az, .ref ae, .ref ao, .ref an, .ref au, .int 0, .int 0, .int 0, .ref ap, .ref aw, .int 0, .int 0, .int 0, .int 0, .int 0])), (am, .inl (tm, 512, .inl f))])) (va_Qi (fun (r : Int32) (u : Unit) => (224 = r)) (fun (u : Unit) (t : State) => va_P (dC, dI) vwCl [(h0, .inr (8, [.int 0, .ref am, .ref ad, .ref ab, .int 0, .int 224, .ref ar, .int 0, .int 0, .int 0, .int 0, .int 0, .int 0, .ref az, .ref ae, .ref ao, .ref an, .ref au, .int 0, .int 0, .int 0, .ref ap, .ref aw, .int 0, .int 0, .int 0, .int 0, .int 0])), (am, .inl (tm, 512, .inl f))] t.heap ∧ va_K (dC, dI) vwCl [(tm, .int)] t ∧ va_D (va_A [(h0, .inr (8, [.int 0, .ref am, .ref ad, .ref ab, .int 0, .int 224, .ref ar, .int 0, .int 0, .int 0, .int 0, .int 0, .int 0, .ref az, .ref ae, .ref ao, .ref an, .ref au, .int 0, .int 0, .int 0, .ref ap, .ref aw, .int 0, .int 0, .int 0, .int 0, .int 0])), (am, .inl (tm, 512, .inl f))] sz) [(h0, .inr (8, [.int 0, .ref am, .ref ad, .ref ab, .int 0, .int 224, .ref ar, .int 0, .int 0, .int 0, .int 0, .int 0, .int 0, .ref az, .ref ae, .ref ao, .ref an, .ref au, .int 0, .int 0, .int 0, .ref ap, .ref aw, .int 0, .int 0, .int 0, .int 0, .int 0])), (am, .inl (tm, 512, .inl f))]) (va_A [(h0, .inr (8, [.int 0, .ref am, .ref ad, .ref ab, .int 0, .int 224, .ref ar, .int 0, .int 0, .int 0, .int 0, .int 0, .int 0, .ref az, .ref ae, .ref ao, .ref an, .ref au, .int 0, .int 0, .int 0, .ref ap, .ref aw, .int 0, .int 0, .int 0, .int 0, .int 0])), (am, .inl (tm, 512, .inl f))] sz)) 0 0 (va_A [(h0, .inr (8, [.int 0, .ref am, .ref ad, .ref ab, .int 0, .int 224, .ref ar, .int 0, .int 0, .int 0, .int 0, .int 0, .int 0, .ref az, .ref ae, .ref ao, .ref an, .ref au, .int 0, .int 0, .int 0, .ref ap, .ref aw, .int 0, .int 0, .int 0, .int 0, .int 0])), (am, .inl (tm, 512, .inl f))] sz) := by
  refine Met.ofW (cc := cX9_at) (maxL := 3) (ret := (some .int)) (by decide) rfl ?_
  intro p e s m args below meth c s₁ B hml hv
  obtain ⟨rfl, hsz, hP, hK, hD0⟩ := hv
  have hx := B.exec
  have hb := B.bytes
  have hr := B.returns
  have hts := atoms_spec (ws := wsX9_at) B.pre
  have hown : s.vm.findClass RX9 = some m.cls := findClass_of_methodNamed B.named
  have hlocks := B.notSynchronized
  have hD := hD0.self (sz := sz)
  generalize hAe : va_A [(h0, .inr (8, [.int 0, .ref am, .ref ad, .ref ab, .int 0, .int 224, .ref ar, .int 0, .int 0, .int 0, .int 0, .int 0, .int 0, .ref az, .ref ae, .ref ao, .ref an, .ref au, .int 0, .int 0, .int 0, .ref ap, .ref aw, .int 0, .int 0, .int 0, .int 0, .int 0])), (am, .inl (tm, 512, .inl f))] sz = A at hD ⊢
  have hA : ∀ q : Nat, s.heap.size ≤ q → A q := fun q h => by rw [← hAe]; exact Or.inr (by omega)
  have hS0 : ∀ G : Heap, s.heap = G → va_S A s.heap G [] := fun G h => by subst h; exact va_S.rf
  generalize hHe : s.heap = H at hP ⊢
  have hS := hS0 H hHe
  have hP : va_P (dC, dI) vwCl [(h0, .inr (8, [.int 0, .ref am, .ref ad, .ref ab, .int 0, .int 224, .ref ar, .int 0, .int 0, .int 0, .int 0, .int 0, .int 0, .ref az, .ref ae, .ref ao, .ref an, .ref au, .int 0, .int 0, .int 0, .ref ap, .ref aw, .int 0, .int 0, .int 0, .int 0, .int 0])), (am, .inl (tm, 512, .inl f))] H := hP
  have hD : va_D A [(h0, .inr (8, [.int 0, .ref am, .ref ad, .ref ab, .int 0, .int 224, .ref ar, .int 0, .int 0, .int 0, .int 0, .int 0, .int 0, .ref az, .ref ae, .ref ao, .ref an, .ref au, .int 0, .int 0, .int 0, .ref ap, .ref aw, .int 0, .int 0, .int 0, .int 0, .int 0])), (am, .inl (tm, 512, .inl f))] := hD
  have hK : va_K (dC, dI) vwCl [(tm, .int)] s := hK
  have hl := lv_entry ([.ref h0, .int 6]) (n := 3) (Nat.le_of_ble_eq_true rfl)
  rw [lg_entry_eq]
  generalize (lg_sl ([.ref h0, .int 6]) ++ List.replicate (3 - (lg_sl ([.ref h0, .int 6])).length) Slot.unset).toArray = ls at hl ⊢
  have hl : lv_has ls 3 [(0, .ref h0), (1, .int 6)] := hl
  refine lv_iload_n hx hb dX9_at_0 rfl (lv_at hl 1 rfl) ?_
  refine lv_sipush (v := 1024) hx hb dX9_at_1 (by decide) ?_
  refine lv_icmp_ge (tgt := 16) hx hb dX9_at_4 (by decide) (fun c1 => ?_) (fun c1 => ?_)
  · exact absurd c1 (by decide)
  · skip
    refine lv_aload_n hx hb dX9_at_7 rfl (lv_at hl 0 rfl) ?_
    refine va_get (D := (dC, dI)) (ci := 8) (v := .ref am) (C := RX9) (T := TX9) (N := 28) hx hb hts (by decide +kernel) hown hK hP 0 rfl rfl 1 (by decide) (hts (.fieldLink RX9 7 "UnibusMachineModel" "memory" "[I") (by decide +kernel)) (fun _ h9 => h9) rfl dX9_at_8 ?_
    refine lv_iload_n hx hb dX9_at_11 rfl (lv_at hl 1 rfl) ?_
    refine lv_iconst (v := 2) hx hb dX9_at_12 (by decide) ?_
    refine lv_idiv hx hb dX9_at_13 (by decide) ?_
    refine lv_topi (fun y2 ey2 => ?_)
    obtain rfl : y2 = 3 := by rw [ey2]; decide
    refine va_iald (D := (dC, dI)) hx hb hK hP 1 0 rfl rfl (vp_in_iff.mpr (by decide)) dX9_at_14 ?_
    refine lv_topi (fun y3 ey3 => ?_)
    obtain rfl : y3 = 224 := by rw [ey3]; assumption
    have hP9 := hP.sub (ws' := [(h0, .inr (8, [.int 0, .ref am, .ref ad, .ref ab, .int 0, .int 224, .ref ar, .int 0, .int 0, .int 0, .int 0, .int 0, .int 0, .ref az, .ref ae, .ref ao, .ref an, .ref au, .int 0, .int 0, .int 0, .ref ap, .ref aw, .int 0, .int 0, .int 0, .int 0, .int 0])), (am, .inl (tm, 512, .inl f))]) [0, 1] rfl
    have hD9 := hD.sub (ws' := [(h0, .inr (8, [.int 0, .ref am, .ref ad, .ref ab, .int 0, .int 224, .ref ar, .int 0, .int 0, .int 0, .int 0, .int 0, .int 0, .ref az, .ref ae, .ref ao, .ref an, .ref au, .int 0, .int 0, .int 0, .ref ap, .ref aw, .int 0, .int 0, .int 0, .int 0, .int 0])), (am, .inl (tm, 512, .inl f))]) [0, 1] (by decide) rfl
    have hK9 := hK.sub (tys' := [(tm, .int)]) [0] rfl
    exact W.iret (v := 224) hx hb hr (fun t ht hW => ⟨⟨224, (), rfl, rfl, by rw [ht]; exact hP9, va_K.moved hW.alike hK9, hD9⟩, hS.F ht⟩) hS.2.2 dX9_at_15
set_option maxHeartbeats 4000000 in
set_option maxRecDepth 100000 in
theorem c_m_read6 (l : Launch) (dC : Nat → ClassId) (dI : Nat → Nat → Nat) (h0 : Nat) (am : Nat) (ad : Nat) (ab : Nat) (ar : Nat) (az : Nat) (ae : Nat) (ao : Nat) (an : Nat) (au : Nat) (ap : Nat) (aw : Nat) (tm : ClassId) (f : Nat → Int32) (sz : Nat) (hF0 : f (3 : Int32).toNatClampNeg = 224) : Met l yX9_read wsX9_read ({ frames := 1, cells := 0, slots := 0, locals := 22 } : Room) (va_Pc [.ref h0, .int 6] (fun U => U.heap.size = sz ∧ va_P (dC, dI) vwCl [(h0, .inr (8, [.int 0, .ref am, .ref ad, .ref ab, .int 0, .int 224, .ref ar, .int 0, .int 0, .int 0, .int 0, .int 0, .int 0, .ref az, .ref ae, .ref ao, .ref an, .ref au, .int 0, .int 0, .int 0, .ref ap, .ref aw, .int 0, .int 0, .int 0, .int 0, .int 0])), (am, .inl (tm, 512, .inl f))] U.heap ∧ va_K (dC, dI) vwCl [(tm, .int)] U ∧ va_D (fun _ => True) [(h0, .inr (8, [.int 0, .ref am, .ref ad, .ref ab, .int 0, .int 224, .ref ar, .int 0, .int 0, .int 0, .int 0, .int 0, .int 0, .ref az, .ref ae, .ref ao, .ref an, .ref au, .int 0, .int 0, .int 0, .ref ap, .ref aw, .int 0, .int 0, .int 0, .int 0, .int 0])), (am, .inl (tm, 512, .inl f))])) (va_Qi (fun (r : Int32) (u : Unit) => (224 = r)) (fun (u : Unit) (t : State) => va_P (dC, dI) vwCl [(h0, .inr (8, [.int 0, .ref am, .ref ad, .ref ab, .int 0, .int 224, .ref ar, .int 0, .int 0, .int 0, .int 0, .int 0, .int 0, .ref az, .ref ae, .ref ao, .ref an, .ref au, .int 0, .int 0, .int 0, .ref ap, .ref aw, .int 0, .int 0, .int 0, .int 0, .int 0])), (am, .inl (tm, 512, .inl f))] t.heap ∧ va_K (dC, dI) vwCl [(tm, .int)] t ∧ va_D (va_A [(h0, .inr (8, [.int 0, .ref am, .ref ad, .ref ab, .int 0, .int 224, .ref ar, .int 0, .int 0, .int 0, .int 0, .int 0, .int 0, .ref az, .ref ae, .ref ao, .ref an, .ref au, .int 0, .int 0, .int 0, .ref ap, .ref aw, .int 0, .int 0, .int 0, .int 0, .int 0])), (am, .inl (tm, 512, .inl f))] sz) [(h0, .inr (8, [.int 0, .ref am, .ref ad, .ref ab, .int 0, .int 224, .ref ar, .int 0, .int 0, .int 0, .int 0, .int 0, .int 0, .ref az, .ref ae, .ref ao, .ref an, .ref au, .int 0, .int 0, .int 0, .ref ap, .ref aw, .int 0, .int 0, .int 0, .int 0, .int 0])), (am, .inl (tm, 512, .inl f))]) (va_A [(h0, .inr (8, [.int 0, .ref am, .ref ad, .ref ab, .int 0, .int 224, .ref ar, .int 0, .int 0, .int 0, .int 0, .int 0, .int 0, .ref az, .ref ae, .ref ao, .ref an, .ref au, .int 0, .int 0, .int 0, .ref ap, .ref aw, .int 0, .int 0, .int 0, .int 0, .int 0])), (am, .inl (tm, 512, .inl f))] sz)) 0 0 (va_A [(h0, .inr (8, [.int 0, .ref am, .ref ad, .ref ab, .int 0, .int 224, .ref ar, .int 0, .int 0, .int 0, .int 0, .int 0, .int 0, .ref az, .ref ae, .ref ao, .ref an, .ref au, .int 0, .int 0, .int 0, .ref ap, .ref aw, .int 0, .int 0, .int 0, .int 0, .int 0])), (am, .inl (tm, 512, .inl f))] sz) := by
  refine Met.ofW (cc := cX9_read) (maxL := 3) (ret := (some .int)) (by decide) rfl ?_
  intro p e s m args below meth c s₁ B hml hv
  obtain ⟨rfl, hsz, hP, hK, hD0⟩ := hv
  have hx := B.exec
  have hb := B.bytes
  have hr := B.returns
  have hts := atoms_spec (ws := wsX9_read) B.pre
  have hown : s.vm.findClass RX9 = some m.cls := findClass_of_methodNamed B.named
  have hlocks := B.notSynchronized
  have hD := hD0.self (sz := sz)
  generalize hAe : va_A [(h0, .inr (8, [.int 0, .ref am, .ref ad, .ref ab, .int 0, .int 224, .ref ar, .int 0, .int 0, .int 0, .int 0, .int 0, .int 0, .ref az, .ref ae, .ref ao, .ref an, .ref au, .int 0, .int 0, .int 0, .ref ap, .ref aw, .int 0, .int 0, .int 0, .int 0, .int 0])), (am, .inl (tm, 512, .inl f))] sz = A at hD ⊢
  have hA : ∀ q : Nat, s.heap.size ≤ q → A q := fun q h => by rw [← hAe]; exact Or.inr (by omega)
  have hS0 : ∀ G : Heap, s.heap = G → va_S A s.heap G [] := fun G h => by subst h; exact va_S.rf
  generalize hHe : s.heap = H at hP ⊢
  have hS := hS0 H hHe
  have hP : va_P (dC, dI) vwCl [(h0, .inr (8, [.int 0, .ref am, .ref ad, .ref ab, .int 0, .int 224, .ref ar, .int 0, .int 0, .int 0, .int 0, .int 0, .int 0, .ref az, .ref ae, .ref ao, .ref an, .ref au, .int 0, .int 0, .int 0, .ref ap, .ref aw, .int 0, .int 0, .int 0, .int 0, .int 0])), (am, .inl (tm, 512, .inl f))] H := hP
  have hD : va_D A [(h0, .inr (8, [.int 0, .ref am, .ref ad, .ref ab, .int 0, .int 224, .ref ar, .int 0, .int 0, .int 0, .int 0, .int 0, .int 0, .ref az, .ref ae, .ref ao, .ref an, .ref au, .int 0, .int 0, .int 0, .ref ap, .ref aw, .int 0, .int 0, .int 0, .int 0, .int 0])), (am, .inl (tm, 512, .inl f))] := hD
  have hK : va_K (dC, dI) vwCl [(tm, .int)] s := hK
  have hl := lv_entry ([.ref h0, .int 6]) (n := 3) (Nat.le_of_ble_eq_true rfl)
  rw [lg_entry_eq]
  generalize (lg_sl ([.ref h0, .int 6]) ++ List.replicate (3 - (lg_sl ([.ref h0, .int 6])).length) Slot.unset).toArray = ls at hl ⊢
  have hl : lv_has ls 3 [(0, .ref h0), (1, .int 6)] := hl
  refine lv_aload_n hx hb dX9_read_0 rfl (lv_at hl 0 rfl) ?_
  refine va_get (D := (dC, dI)) (ci := 8) (v := .int 0) (C := RX9) (T := TX9) (N := 28) hx hb hts (by decide +kernel) hown hK hP 0 rfl rfl 10 (by decide) (hts (.fieldLink RX9 87 "UnibusMachineModel" "wrong" "I") (by decide +kernel)) (fun _ h9 => h9) rfl dX9_read_1 ?_
  refine lv_if_le (tgt := 9) hx hb dX9_read_4 (by decide) (fun c1 => ?_) (fun c1 => ?_)
  · skip
    refine lv_aload_n hx hb dX9_read_9 rfl (lv_at hl 0 rfl) ?_
    refine lv_iload_n hx hb dX9_read_10 rfl (lv_at hl 1 rfl) ?_
    have hPc := hP.sub (ws' := [(h0, .inr (8, [.int 0, .ref am, .ref ad, .ref ab, .int 0, .int 224, .ref ar, .int 0, .int 0, .int 0, .int 0, .int 0, .int 0, .ref az, .ref ae, .ref ao, .ref an, .ref au, .int 0, .int 0, .int 0, .ref ap, .ref aw, .int 0, .int 0, .int 0, .int 0, .int 0])), (am, .inl (tm, 512, .inl f))]) [0, 1] rfl
    have hDc := hD.sub (ws' := [(h0, .inr (8, [.int 0, .ref am, .ref ad, .ref ab, .int 0, .int 224, .ref ar, .int 0, .int 0, .int 0, .int 0, .int 0, .int 0, .ref az, .ref ae, .ref ao, .ref an, .ref au, .int 0, .int 0, .int 0, .ref ap, .ref aw, .int 0, .int 0, .int 0, .int 0, .int 0])), (am, .inl (tm, 512, .inl f))]) [0, 1] (by decide) rfl
    have hKc := hK.sub (tys' := [(tm, .int)]) [0] rfl
    have hFc := va_free (wc := [(h0, .inr (8, [.int 0, .ref am, .ref ad, .ref ab, .int 0, .int 224, .ref ar, .int 0, .int 0, .int 0, .int 0, .int 0, .int 0, .ref az, .ref ae, .ref ao, .ref an, .ref au, .int 0, .int 0, .int 0, .ref ap, .ref aw, .int 0, .int 0, .int 0, .int 0, .int 0])), (am, .inl (tm, 512, .inl f))]) hD hS hA [0, 1] rfl
    refine va_calli (va_runV (As := [.int 6]) (rest := []) ⟨hx, hb, hml, hown, hts⟩ (c_m_at6 l dC dI h0 am ad ab ar az ae ao an au ap aw tm f H.size (by first | assumption | omega | decide)) (cwV 1 hts gX9_read_X9_at rfl rfl rfl (by decide +kernel) ⟨Nat.le_of_ble_eq_true rfl, Nat.le_of_ble_eq_true rfl⟩) ⟨fun a U g mk q => by obtain ⟨q0, q1, qP, qK, qD⟩ := q; exact ⟨q0, q1, qP, va_K.moved (u := U) (U := U.calling g mk a) (Vm.Alike.refl U.vm) qK, qD⟩, va_recv hKc hPc (ci := 8) (q0 := 0) rfl rfl, fun U hU hW => ⟨rfl, by rw [hU], by rw [hU]; exact hPc, va_K.moved hW.alike hKc, hDc.weaken (fun _ _ _ _ => trivial)⟩⟩ rfl rfl hl.1 rfl (lv_room (Nat.le_of_ble_eq_true rfl)) dX9_read_11 ⟨Nat.le_of_ble_eq_true rfl, Nat.le_of_ble_eq_true rfl⟩) hS (fun q _ h => hFc q h) hFc (fun r2 u3 t H1 locs ht hvm hw hB hz1 hk1 hS => ?_)
    obtain ⟨hP1, hK1, hD1⟩ := hB
    rw [ht] at hP1
    have hK1 := va_K.moved hvm.symm hK1
    try dsimp only at hw
    obtain ⟨hP, hD⟩ := va_join (wr := []) (w1 := [(h0, .inr (8, [.int 0, .ref am, .ref ad, .ref ab, .int 0, .int 224, .ref ar, .int 0, .int 0, .int 0, .int 0, .int 0, .int 0, .ref az, .ref ae, .ref ao, .ref an, .ref au, .int 0, .int 0, .int 0, .ref ap, .ref aw, .int 0, .int 0, .int 0, .int 0, .int 0])), (am, .inl (tm, 512, .inl f))]) hP hD [0, 1] [] rfl rfl (by decide) (by decide) hk1 hFc hP1 hD1
    have hK := (hK.sub (tys' := []) [] rfl).app hK1
    generalize H1 = H at hP hS ⊢
    have hP : va_P (dC, dI) vwCl [(h0, .inr (8, [.int 0, .ref am, .ref ad, .ref ab, .int 0, .int 224, .ref ar, .int 0, .int 0, .int 0, .int 0, .int 0, .int 0, .ref az, .ref ae, .ref ao, .ref an, .ref au, .int 0, .int 0, .int 0, .ref ap, .ref aw, .int 0, .int 0, .int 0, .int 0, .int 0])), (am, .inl (tm, 512, .inl f))] H := hP
    have hD : va_D A [(h0, .inr (8, [.int 0, .ref am, .ref ad, .ref ab, .int 0, .int 224, .ref ar, .int 0, .int 0, .int 0, .int 0, .int 0, .int 0, .ref az, .ref ae, .ref ao, .ref an, .ref au, .int 0, .int 0, .int 0, .ref ap, .ref aw, .int 0, .int 0, .int 0, .int 0, .int 0])), (am, .inl (tm, 512, .inl f))] := hD
    have hK : va_K (dC, dI) vwCl [(tm, .int)] s := hK
    refine W.widen (k := 0) (n := 0) (Nat.le_of_ble_eq_true rfl) (Nat.le_of_ble_eq_true rfl) ?_
    obtain rfl := hw
    refine lv_istore_n (lv' := [(2, .int 224), (0, .ref h0), (1, .int 6)]) hx hb dX9_read_14 rfl hl (by decide) rfl (fun ls hl => ?_)
    refine lv_iload_n hx hb dX9_read_15 rfl (lv_at hl 0 rfl) ?_
    refine lv_if_ge (tgt := 24) hx hb dX9_read_16 (by decide) (fun c4 => ?_) (fun c4 => ?_)
    · skip
      refine lv_iload_n hx hb dX9_read_24 rfl (lv_at hl 2 rfl) ?_
      refine lv_ldc (v := 57426) hx hb hown (hts (.constant RX9 93 (57426)) (by decide +kernel)) dX9_read_25 ?_
      refine lv_icmp_ne (tgt := 37) hx hb dX9_read_27 (by decide) (fun c5 => ?_) (fun c5 => ?_)
      · skip
        refine lv_iload_n hx hb dX9_read_37 rfl (lv_at hl 0 rfl) ?_
        refine lv_if_ge (tgt := 45) hx hb dX9_read_38 (by decide) (fun c6 => ?_) (fun c6 => ?_)
        · skip
          refine lv_iload_n hx hb dX9_read_45 rfl (lv_at hl 0 rfl) ?_
          have hP9 := hP.sub (ws' := [(h0, .inr (8, [.int 0, .ref am, .ref ad, .ref ab, .int 0, .int 224, .ref ar, .int 0, .int 0, .int 0, .int 0, .int 0, .int 0, .ref az, .ref ae, .ref ao, .ref an, .ref au, .int 0, .int 0, .int 0, .ref ap, .ref aw, .int 0, .int 0, .int 0, .int 0, .int 0])), (am, .inl (tm, 512, .inl f))]) [0, 1] rfl
          have hD9 := hD.sub (ws' := [(h0, .inr (8, [.int 0, .ref am, .ref ad, .ref ab, .int 0, .int 224, .ref ar, .int 0, .int 0, .int 0, .int 0, .int 0, .int 0, .ref az, .ref ae, .ref ao, .ref an, .ref au, .int 0, .int 0, .int 0, .ref ap, .ref aw, .int 0, .int 0, .int 0, .int 0, .int 0])), (am, .inl (tm, 512, .inl f))]) [0, 1] (by decide) rfl
          have hK9 := hK.sub (tys' := [(tm, .int)]) [0] rfl
          exact W.iret (v := 224) hx hb hr (fun t ht hW => ⟨⟨224, (), rfl, rfl, by rw [ht]; exact hP9, va_K.moved hW.alike hK9, hD9⟩, hS.F ht⟩) hS.2.2 dX9_read_46
        · exact absurd c6 (by decide)
      · exact absurd c5 (by decide)
    · exact absurd c4 (by decide)
  · exact absurd c1 (by decide)
set_option maxHeartbeats 4000000 in
set_option maxRecDepth 100000 in
theorem c_m_wordAt6 (l : Launch) (dC : Nat → ClassId) (dI : Nat → Nat → Nat) (h0 : Nat) (am : Nat) (ad : Nat) (ab : Nat) (ar : Nat) (az : Nat) (ae : Nat) (ao : Nat) (an : Nat) (au : Nat) (ap : Nat) (aw : Nat) (tm : ClassId) (f : Nat → Int32) (sz : Nat) (hF0 : f (3 : Int32).toNatClampNeg = 224) : Met l yX9_wordAt wsX9_wordAt ({ frames := 2, cells := 0, slots := 0, locals := 44 } : Room) (va_Pc [.ref h0, .int 6, .int 0] (fun U => U.heap.size = sz ∧ va_P (dC, dI) vwCl [(h0, .inr (8, [.int 0, .ref am, .ref ad, .ref ab, .int 0, .int 224, .ref ar, .int 0, .int 0, .int 0, .int 0, .int 0, .int 0, .ref az, .ref ae, .ref ao, .ref an, .ref au, .int 0, .int 0, .int 0, .ref ap, .ref aw, .int 0, .int 0, .int 0, .int 0, .int 0])), (am, .inl (tm, 512, .inl f))] U.heap ∧ va_K (dC, dI) vwCl [(tm, .int)] U ∧ va_D (fun _ => True) [(h0, .inr (8, [.int 0, .ref am, .ref ad, .ref ab, .int 0, .int 224, .ref ar, .int 0, .int 0, .int 0, .int 0, .int 0, .int 0, .ref az, .ref ae, .ref ao, .ref an, .ref au, .int 0, .int 0, .int 0, .ref ap, .ref aw, .int 0, .int 0, .int 0, .int 0, .int 0])), (am, .inl (tm, 512, .inl f))])) (va_Qi (fun (r : Int32) (u : Unit) => (224 = r)) (fun (u : Unit) (t : State) => va_P (dC, dI) vwCl [(h0, .inr (8, [.int 0, .ref am, .ref ad, .ref ab, .int 0, .int 224, .ref ar, .int 0, .int 0, .int 0, .int 0, .int 0, .int 0, .ref az, .ref ae, .ref ao, .ref an, .ref au, .int 0, .int 0, .int 0, .ref ap, .ref aw, .int 0, .int 0, .int 0, .int 0, .int 0])), (am, .inl (tm, 512, .inl f))] t.heap ∧ va_K (dC, dI) vwCl [(tm, .int)] t ∧ va_D (va_A [(h0, .inr (8, [.int 0, .ref am, .ref ad, .ref ab, .int 0, .int 224, .ref ar, .int 0, .int 0, .int 0, .int 0, .int 0, .int 0, .ref az, .ref ae, .ref ao, .ref an, .ref au, .int 0, .int 0, .int 0, .ref ap, .ref aw, .int 0, .int 0, .int 0, .int 0, .int 0])), (am, .inl (tm, 512, .inl f))] sz) [(h0, .inr (8, [.int 0, .ref am, .ref ad, .ref ab, .int 0, .int 224, .ref ar, .int 0, .int 0, .int 0, .int 0, .int 0, .int 0, .ref az, .ref ae, .ref ao, .ref an, .ref au, .int 0, .int 0, .int 0, .ref ap, .ref aw, .int 0, .int 0, .int 0, .int 0, .int 0])), (am, .inl (tm, 512, .inl f))]) (va_A [(h0, .inr (8, [.int 0, .ref am, .ref ad, .ref ab, .int 0, .int 224, .ref ar, .int 0, .int 0, .int 0, .int 0, .int 0, .int 0, .ref az, .ref ae, .ref ao, .ref an, .ref au, .int 0, .int 0, .int 0, .ref ap, .ref aw, .int 0, .int 0, .int 0, .int 0, .int 0])), (am, .inl (tm, 512, .inl f))] sz)) 0 0 (va_A [(h0, .inr (8, [.int 0, .ref am, .ref ad, .ref ab, .int 0, .int 224, .ref ar, .int 0, .int 0, .int 0, .int 0, .int 0, .int 0, .ref az, .ref ae, .ref ao, .ref an, .ref au, .int 0, .int 0, .int 0, .ref ap, .ref aw, .int 0, .int 0, .int 0, .int 0, .int 0])), (am, .inl (tm, 512, .inl f))] sz) := by
  refine Met.ofW (cc := cX9_wordAt) (maxL := 3) (ret := (some .int)) (by decide) rfl ?_
  intro p e s m args below meth c s₁ B hml hv
  obtain ⟨rfl, hsz, hP, hK, hD0⟩ := hv
  have hx := B.exec
  have hb := B.bytes
  have hr := B.returns
  have hts := atoms_spec (ws := wsX9_wordAt) B.pre
  have hown : s.vm.findClass RX9 = some m.cls := findClass_of_methodNamed B.named
  have hlocks := B.notSynchronized
  have hD := hD0.self (sz := sz)
  generalize hAe : va_A [(h0, .inr (8, [.int 0, .ref am, .ref ad, .ref ab, .int 0, .int 224, .ref ar, .int 0, .int 0, .int 0, .int 0, .int 0, .int 0, .ref az, .ref ae, .ref ao, .ref an, .ref au, .int 0, .int 0, .int 0, .ref ap, .ref aw, .int 0, .int 0, .int 0, .int 0, .int 0])), (am, .inl (tm, 512, .inl f))] sz = A at hD ⊢
  have hA : ∀ q : Nat, s.heap.size ≤ q → A q := fun q h => by rw [← hAe]; exact Or.inr (by omega)
  have hS0 : ∀ G : Heap, s.heap = G → va_S A s.heap G [] := fun G h => by subst h; exact va_S.rf
  generalize hHe : s.heap = H at hP ⊢
  have hS := hS0 H hHe
  have hP : va_P (dC, dI) vwCl [(h0, .inr (8, [.int 0, .ref am, .ref ad, .ref ab, .int 0, .int 224, .ref ar, .int 0, .int 0, .int 0, .int 0, .int 0, .int 0, .ref az, .ref ae, .ref ao, .ref an, .ref au, .int 0, .int 0, .int 0, .ref ap, .ref aw, .int 0, .int 0, .int 0, .int 0, .int 0])), (am, .inl (tm, 512, .inl f))] H := hP
  have hD : va_D A [(h0, .inr (8, [.int 0, .ref am, .ref ad, .ref ab, .int 0, .int 224, .ref ar, .int 0, .int 0, .int 0, .int 0, .int 0, .int 0, .ref az, .ref ae, .ref ao, .ref an, .ref au, .int 0, .int 0, .int 0, .ref ap, .ref aw, .int 0, .int 0, .int 0, .int 0, .int 0])), (am, .inl (tm, 512, .inl f))] := hD
  have hK : va_K (dC, dI) vwCl [(tm, .int)] s := hK
  have hl := lv_entry ([.ref h0, .int 6, .int 0]) (n := 3) (Nat.le_of_ble_eq_true rfl)
  rw [lg_entry_eq]
  generalize (lg_sl ([.ref h0, .int 6, .int 0]) ++ List.replicate (3 - (lg_sl ([.ref h0, .int 6, .int 0])).length) Slot.unset).toArray = ls at hl ⊢
  have hl : lv_has ls 3 [(0, .ref h0), (1, .int 6), (2, .int 0)] := hl
  refine lv_aload_n hx hb dX9_wordAt_0 rfl (lv_at hl 0 rfl) ?_
  refine va_get (D := (dC, dI)) (ci := 8) (v := .int 0) (C := RX9) (T := TX9) (N := 28) hx hb hts (by decide +kernel) hown hK hP 0 rfl rfl 10 (by decide) (hts (.fieldLink RX9 87 "UnibusMachineModel" "wrong" "I") (by decide +kernel)) (fun _ h9 => h9) rfl dX9_wordAt_1 ?_
  refine lv_if_ne (tgt := 19) hx hb dX9_wordAt_4 (by decide) (fun c1 => ?_) (fun c1 => ?_)
  · exact absurd c1 (by decide)
  · skip
    refine lv_iload_n hx hb dX9_wordAt_7 rfl (lv_at hl 1 rfl) ?_
    refine lv_iconst (v := 2) hx hb dX9_wordAt_8 (by decide) ?_
    refine lv_irem hx hb dX9_wordAt_9 (by decide) ?_
    refine lv_topi (fun y2 ey2 => ?_)
    obtain rfl : y2 = 0 := by rw [ey2]; decide
    refine lv_iconst (v := 1) hx hb dX9_wordAt_10 (by decide) ?_
    refine lv_icmp_ne (tgt := 19) hx hb dX9_wordAt_11 (by decide) (fun c3 => ?_) (fun c3 => ?_)
    · skip
      refine lv_aload_n hx hb dX9_wordAt_19 rfl (lv_at hl 0 rfl) ?_
      refine lv_aload_n hx hb dX9_wordAt_20 rfl (lv_at hl 0 rfl) ?_
      refine lv_iload_n hx hb dX9_wordAt_21 rfl (lv_at hl 1 rfl) ?_
      refine lv_iload_n hx hb dX9_wordAt_22 rfl (lv_at hl 2 rfl) ?_
      refine lv_iconst (v := 0) hx hb dX9_wordAt_23 (by decide) ?_
      have hPc := hP.sub (ws' := [(h0, .inr (8, [.int 0, .ref am, .ref ad, .ref ab, .int 0, .int 224, .ref ar, .int 0, .int 0, .int 0, .int 0, .int 0, .int 0, .ref az, .ref ae, .ref ao, .ref an, .ref au, .int 0, .int 0, .int 0, .ref ap, .ref aw, .int 0, .int 0, .int 0, .int 0, .int 0]))]) [0] rfl
      have hDc := hD.sub (ws' := [(h0, .inr (8, [.int 0, .ref am, .ref ad, .ref ab, .int 0, .int 224, .ref ar, .int 0, .int 0, .int 0, .int 0, .int 0, .int 0, .ref az, .ref ae, .ref ao, .ref an, .ref au, .int 0, .int 0, .int 0, .ref ap, .ref aw, .int 0, .int 0, .int 0, .int 0, .int 0]))]) [0] (by decide) rfl
      have hKc := hK.sub (tys' := []) [] rfl
      have hFc := va_free (wc := [(h0, .inr (8, [.int 0, .ref am, .ref ad, .ref ab, .int 0, .int 224, .ref ar, .int 0, .int 0, .int 0, .int 0, .int 0, .int 0, .ref az, .ref ae, .ref ao, .ref an, .ref au, .int 0, .int 0, .int 0, .ref ap, .ref aw, .int 0, .int 0, .int 0, .int 0, .int 0]))]) hD hS hA [0] rfl
      refine va_calli (va_runV (As := [.int 6, .int 0, .int 0]) (rest := [.ref h0]) ⟨hx, hb, hml, hown, hts⟩ (c_m_mapped l dC dI h0 am ad ab ar az ae ao an au ap aw 6 0 H.size) (cwV 3 hts gX9_wordAt_X9_mapped rfl rfl rfl (by decide +kernel) ⟨Nat.le_of_ble_eq_true rfl, Nat.le_of_ble_eq_true rfl⟩) ⟨fun a U g mk q => by obtain ⟨q0, q1, qP, qK, qD⟩ := q; exact ⟨q0, q1, qP, va_K.moved (u := U) (U := U.calling g mk a) (Vm.Alike.refl U.vm) qK, qD⟩, va_recv hKc hPc (ci := 8) (q0 := 0) rfl rfl, fun U hU hW => ⟨rfl, by rw [hU], by rw [hU]; exact hPc, va_K.moved hW.alike hKc, hDc.weaken (fun _ _ _ _ => trivial)⟩⟩ rfl rfl hl.1 rfl (lv_room (Nat.le_of_ble_eq_true rfl)) dX9_wordAt_24 ⟨Nat.le_of_ble_eq_true rfl, Nat.le_of_ble_eq_true rfl⟩) hS (fun q _ h => hFc q h) hFc (fun r4 u5 t H1 locs ht hvm hw hB hz1 hk1 hS => ?_)
      obtain ⟨hP1, hK1, hD1⟩ := hB
      rw [ht] at hP1
      have hK1 := va_K.moved hvm.symm hK1
      try dsimp only at hw
      obtain ⟨hP, hD⟩ := va_join (wr := [(am, .inl (tm, 512, .inl f))]) (w1 := [(h0, .inr (8, [.int 0, .ref am, .ref ad, .ref ab, .int 0, .int 224, .ref ar, .int 0, .int 0, .int 0, .int 0, .int 0, .int 0, .ref az, .ref ae, .ref ao, .ref an, .ref au, .int 0, .int 0, .int 0, .ref ap, .ref aw, .int 0, .int 0, .int 0, .int 0, .int 0]))]) hP hD [0] [1] rfl rfl (by decide) (by decide) hk1 hFc hP1 hD1
      have hK := (hK.sub (tys' := [(tm, .int)]) [0] rfl).app hK1
      generalize H1 = H at hP hS ⊢
      have hP : va_P (dC, dI) vwCl [(am, .inl (tm, 512, .inl f)), (h0, .inr (8, [.int 0, .ref am, .ref ad, .ref ab, .int 0, .int 224, .ref ar, .int 0, .int 0, .int 0, .int 0, .int 0, .int 0, .ref az, .ref ae, .ref ao, .ref an, .ref au, .int 0, .int 0, .int 0, .ref ap, .ref aw, .int 0, .int 0, .int 0, .int 0, .int 0]))] H := hP
      have hD : va_D A [(am, .inl (tm, 512, .inl f)), (h0, .inr (8, [.int 0, .ref am, .ref ad, .ref ab, .int 0, .int 224, .ref ar, .int 0, .int 0, .int 0, .int 0, .int 0, .int 0, .ref az, .ref ae, .ref ao, .ref an, .ref au, .int 0, .int 0, .int 0, .ref ap, .ref aw, .int 0, .int 0, .int 0, .int 0, .int 0]))] := hD
      have hK : va_K (dC, dI) vwCl [(tm, .int)] s := hK
      refine W.widen (k := 0) (n := 0) (Nat.le_of_ble_eq_true rfl) (Nat.le_of_ble_eq_true rfl) ?_
      obtain rfl := hw
      have hPc := hP.sub (ws' := [(h0, .inr (8, [.int 0, .ref am, .ref ad, .ref ab, .int 0, .int 224, .ref ar, .int 0, .int 0, .int 0, .int 0, .int 0, .int 0, .ref az, .ref ae, .ref ao, .ref an, .ref au, .int 0, .int 0, .int 0, .ref ap, .ref aw, .int 0, .int 0, .int 0, .int 0, .int 0])), (am, .inl (tm, 512, .inl f))]) [1, 0] rfl
      have hDc := hD.sub (ws' := [(h0, .inr (8, [.int 0, .ref am, .ref ad, .ref ab, .int 0, .int 224, .ref ar, .int 0, .int 0, .int 0, .int 0, .int 0, .int 0, .ref az, .ref ae, .ref ao, .ref an, .ref au, .int 0, .int 0, .int 0, .ref ap, .ref aw, .int 0, .int 0, .int 0, .int 0, .int 0])), (am, .inl (tm, 512, .inl f))]) [1, 0] (by decide) rfl
      have hKc := hK.sub (tys' := [(tm, .int)]) [0] rfl
      have hFc := va_free (wc := [(h0, .inr (8, [.int 0, .ref am, .ref ad, .ref ab, .int 0, .int 224, .ref ar, .int 0, .int 0, .int 0, .int 0, .int 0, .int 0, .ref az, .ref ae, .ref ao, .ref an, .ref au, .int 0, .int 0, .int 0, .ref ap, .ref aw, .int 0, .int 0, .int 0, .int 0, .int 0])), (am, .inl (tm, 512, .inl f))]) hD hS hA [1, 0] rfl
      refine va_calli (va_runV (As := [.int 6]) (rest := []) ⟨hx, hb, hml, hown, hts⟩ (c_m_read6 l dC dI h0 am ad ab ar az ae ao an au ap aw tm f H.size (by first | assumption | omega | decide)) (cwV 1 hts gX9_wordAt_X9_read rfl rfl rfl (by decide +kernel) ⟨Nat.le_of_ble_eq_true rfl, Nat.le_of_ble_eq_true rfl⟩) ⟨fun a U g mk q => by obtain ⟨q0, q1, qP, qK, qD⟩ := q; exact ⟨q0, q1, qP, va_K.moved (u := U) (U := U.calling g mk a) (Vm.Alike.refl U.vm) qK, qD⟩, va_recv hKc hPc (ci := 8) (q0 := 0) rfl rfl, fun U hU hW => ⟨rfl, by rw [hU], by rw [hU]; exact hPc, va_K.moved hW.alike hKc, hDc.weaken (fun _ _ _ _ => trivial)⟩⟩ rfl rfl hl.1 rfl (lv_room (Nat.le_of_ble_eq_true rfl)) dX9_wordAt_27 ⟨Nat.le_of_ble_eq_true rfl, Nat.le_of_ble_eq_true rfl⟩) hS (fun q _ h => hFc q h) hFc (fun r6 u7 t H1 locs ht hvm hw hB hz1 hk1 hS => ?_)
      obtain ⟨hP1, hK1, hD1⟩ := hB
      rw [ht] at hP1
      have hK1 := va_K.moved hvm.symm hK1
      try dsimp only at hw
      obtain ⟨hP, hD⟩ := va_join (wr := []) (w1 := [(h0, .inr (8, [.int 0, .ref am, .ref ad, .ref ab, .int 0, .int 224, .ref ar, .int 0, .int 0, .int 0, .int 0, .int 0, .int 0, .ref az, .ref ae, .ref ao, .ref an, .ref au, .int 0, .int 0, .int 0, .ref ap, .ref aw, .int 0, .int 0, .int 0, .int 0, .int 0])), (am, .inl (tm, 512, .inl f))]) hP hD [1, 0] [] rfl rfl (by decide) (by decide) hk1 hFc hP1 hD1
      have hK := (hK.sub (tys' := []) [] rfl).app hK1
      generalize H1 = H at hP hS ⊢
      have hP : va_P (dC, dI) vwCl [(h0, .inr (8, [.int 0, .ref am, .ref ad, .ref ab, .int 0, .int 224, .ref ar, .int 0, .int 0, .int 0, .int 0, .int 0, .int 0, .ref az, .ref ae, .ref ao, .ref an, .ref au, .int 0, .int 0, .int 0, .ref ap, .ref aw, .int 0, .int 0, .int 0, .int 0, .int 0])), (am, .inl (tm, 512, .inl f))] H := hP
      have hD : va_D A [(h0, .inr (8, [.int 0, .ref am, .ref ad, .ref ab, .int 0, .int 224, .ref ar, .int 0, .int 0, .int 0, .int 0, .int 0, .int 0, .ref az, .ref ae, .ref ao, .ref an, .ref au, .int 0, .int 0, .int 0, .ref ap, .ref aw, .int 0, .int 0, .int 0, .int 0, .int 0])), (am, .inl (tm, 512, .inl f))] := hD
      have hK : va_K (dC, dI) vwCl [(tm, .int)] s := hK
      refine W.widen (k := 0) (n := 0) (Nat.le_of_ble_eq_true rfl) (Nat.le_of_ble_eq_true rfl) ?_
      obtain rfl := hw
      have hP9 := hP.sub (ws' := [(h0, .inr (8, [.int 0, .ref am, .ref ad, .ref ab, .int 0, .int 224, .ref ar, .int 0, .int 0, .int 0, .int 0, .int 0, .int 0, .ref az, .ref ae, .ref ao, .ref an, .ref au, .int 0, .int 0, .int 0, .ref ap, .ref aw, .int 0, .int 0, .int 0, .int 0, .int 0])), (am, .inl (tm, 512, .inl f))]) [0, 1] rfl
      have hD9 := hD.sub (ws' := [(h0, .inr (8, [.int 0, .ref am, .ref ad, .ref ab, .int 0, .int 224, .ref ar, .int 0, .int 0, .int 0, .int 0, .int 0, .int 0, .ref az, .ref ae, .ref ao, .ref an, .ref au, .int 0, .int 0, .int 0, .ref ap, .ref aw, .int 0, .int 0, .int 0, .int 0, .int 0])), (am, .inl (tm, 512, .inl f))]) [0, 1] (by decide) rfl
      have hK9 := hK.sub (tys' := [(tm, .int)]) [0] rfl
      exact W.iret (v := 224) hx hb hr (fun t ht hW => ⟨⟨224, (), rfl, rfl, by rw [ht]; exact hP9, va_K.moved hW.alike hK9, hD9⟩, hS.F ht⟩) hS.2.2 dX9_wordAt_30
    · exact absurd c3 (by decide)
set_option maxHeartbeats 4000000 in
set_option maxRecDepth 100000 in
theorem c_m_atS (l : Launch) (dC : Nat → ClassId) (dI : Nat → Nat → Nat) (h0 : Nat) (am : Nat) (ad : Nat) (ab : Nat) (ar : Nat) (az : Nat) (ae : Nat) (ao : Nat) (an : Nat) (au : Nat) (ap : Nat) (aw : Nat) (tm : ClassId) (f : Nat → Int32) (a0 : Int32) (sz : Nat) (hF0 : ∀ i : Nat, 0 ≤ (f i).toInt) (hH1 : 160 ≤ a0.toInt) (hH2 : a0.toInt < 1024) : Met l yX9_at wsX9_at ({ frames := 0, cells := 0, slots := 0, locals := 0 } : Room) (va_Pc [.ref h0, .int a0] (fun U => U.heap.size = sz ∧ va_P (dC, dI) vwCl [(h0, .inr (8, [.int 0, .ref am, .ref ad, .ref ab, .int 0, .int 224, .ref ar, .int 0, .int 0, .int 0, .int 0, .int 0, .int 0, .ref az, .ref ae, .ref ao, .ref an, .ref au, .int 0, .int 0, .int 0, .ref ap, .ref aw, .int 0, .int 0, .int 0, .int 0, .int 0])), (am, .inl (tm, 512, .inl f))] U.heap ∧ va_K (dC, dI) vwCl [(tm, .int)] U ∧ va_D (fun _ => True) [(h0, .inr (8, [.int 0, .ref am, .ref ad, .ref ab, .int 0, .int 224, .ref ar, .int 0, .int 0, .int 0, .int 0, .int 0, .int 0, .ref az, .ref ae, .ref ao, .ref an, .ref au, .int 0, .int 0, .int 0, .ref ap, .ref aw, .int 0, .int 0, .int 0, .int 0, .int 0])), (am, .inl (tm, 512, .inl f))])) (va_Qi (fun (r : Int32) (u : Unit) => (0 ≤ r.toInt)) (fun (u : Unit) (t : State) => va_P (dC, dI) vwCl [(h0, .inr (8, [.int 0, .ref am, .ref ad, .ref ab, .int 0, .int 224, .ref ar, .int 0, .int 0, .int 0, .int 0, .int 0, .int 0, .ref az, .ref ae, .ref ao, .ref an, .ref au, .int 0, .int 0, .int 0, .ref ap, .ref aw, .int 0, .int 0, .int 0, .int 0, .int 0])), (am, .inl (tm, 512, .inl f))] t.heap ∧ va_K (dC, dI) vwCl [(tm, .int)] t ∧ va_D (va_A [(h0, .inr (8, [.int 0, .ref am, .ref ad, .ref ab, .int 0, .int 224, .ref ar, .int 0, .int 0, .int 0, .int 0, .int 0, .int 0, .ref az, .ref ae, .ref ao, .ref an, .ref au, .int 0, .int 0, .int 0, .ref ap, .ref aw, .int 0, .int 0, .int 0, .int 0, .int 0])), (am, .inl (tm, 512, .inl f))] sz) [(h0, .inr (8, [.int 0, .ref am, .ref ad, .ref ab, .int 0, .int 224, .ref ar, .int 0, .int 0, .int 0, .int 0, .int 0, .int 0, .ref az, .ref ae, .ref ao, .ref an, .ref au, .int 0, .int 0, .int 0, .ref ap, .ref aw, .int 0, .int 0, .int 0, .int 0, .int 0])), (am, .inl (tm, 512, .inl f))]) (va_A [(h0, .inr (8, [.int 0, .ref am, .ref ad, .ref ab, .int 0, .int 224, .ref ar, .int 0, .int 0, .int 0, .int 0, .int 0, .int 0, .ref az, .ref ae, .ref ao, .ref an, .ref au, .int 0, .int 0, .int 0, .ref ap, .ref aw, .int 0, .int 0, .int 0, .int 0, .int 0])), (am, .inl (tm, 512, .inl f))] sz)) 0 0 (va_A [(h0, .inr (8, [.int 0, .ref am, .ref ad, .ref ab, .int 0, .int 224, .ref ar, .int 0, .int 0, .int 0, .int 0, .int 0, .int 0, .ref az, .ref ae, .ref ao, .ref an, .ref au, .int 0, .int 0, .int 0, .ref ap, .ref aw, .int 0, .int 0, .int 0, .int 0, .int 0])), (am, .inl (tm, 512, .inl f))] sz) := by
  refine Met.ofW (cc := cX9_at) (maxL := 3) (ret := (some .int)) (by decide) rfl ?_
  intro p e s m args below meth c s₁ B hml hv
  obtain ⟨rfl, hsz, hP, hK, hD0⟩ := hv
  have hx := B.exec
  have hb := B.bytes
  have hr := B.returns
  have hts := atoms_spec (ws := wsX9_at) B.pre
  have hown : s.vm.findClass RX9 = some m.cls := findClass_of_methodNamed B.named
  have hlocks := B.notSynchronized
  have hD := hD0.self (sz := sz)
  generalize hAe : va_A [(h0, .inr (8, [.int 0, .ref am, .ref ad, .ref ab, .int 0, .int 224, .ref ar, .int 0, .int 0, .int 0, .int 0, .int 0, .int 0, .ref az, .ref ae, .ref ao, .ref an, .ref au, .int 0, .int 0, .int 0, .ref ap, .ref aw, .int 0, .int 0, .int 0, .int 0, .int 0])), (am, .inl (tm, 512, .inl f))] sz = A at hD ⊢
  have hA : ∀ q : Nat, s.heap.size ≤ q → A q := fun q h => by rw [← hAe]; exact Or.inr (by omega)
  have hS0 : ∀ G : Heap, s.heap = G → va_S A s.heap G [] := fun G h => by subst h; exact va_S.rf
  generalize hHe : s.heap = H at hP ⊢
  have hS := hS0 H hHe
  have hP : va_P (dC, dI) vwCl [(h0, .inr (8, [.int 0, .ref am, .ref ad, .ref ab, .int 0, .int 224, .ref ar, .int 0, .int 0, .int 0, .int 0, .int 0, .int 0, .ref az, .ref ae, .ref ao, .ref an, .ref au, .int 0, .int 0, .int 0, .ref ap, .ref aw, .int 0, .int 0, .int 0, .int 0, .int 0])), (am, .inl (tm, 512, .inl f))] H := hP
  have hD : va_D A [(h0, .inr (8, [.int 0, .ref am, .ref ad, .ref ab, .int 0, .int 224, .ref ar, .int 0, .int 0, .int 0, .int 0, .int 0, .int 0, .ref az, .ref ae, .ref ao, .ref an, .ref au, .int 0, .int 0, .int 0, .ref ap, .ref aw, .int 0, .int 0, .int 0, .int 0, .int 0])), (am, .inl (tm, 512, .inl f))] := hD
  have hK : va_K (dC, dI) vwCl [(tm, .int)] s := hK
  have hl := lv_entry ([.ref h0, .int a0]) (n := 3) (Nat.le_of_ble_eq_true rfl)
  rw [lg_entry_eq]
  generalize (lg_sl ([.ref h0, .int a0]) ++ List.replicate (3 - (lg_sl ([.ref h0, .int a0])).length) Slot.unset).toArray = ls at hl ⊢
  have hl : lv_has ls 3 [(0, .ref h0), (1, .int a0)] := hl
  refine lv_iload_n hx hb dX9_at_0 rfl (lv_at hl 1 rfl) ?_
  refine lv_sipush (v := 1024) hx hb dX9_at_1 (by decide) ?_
  refine lv_icmp_ge (tgt := 16) hx hb dX9_at_4 (by decide) (fun c1 => ?_) (fun c1 => ?_)
  · have c1 := fz_le.mp c1
    have kk1024 : (1024 : Int32).toInt = 1024 := by decide
    exact False.elim (by omega)
  · have c1 := fz_nle.mp c1
    have kk1024 : (1024 : Int32).toInt = 1024 := by decide
    refine lv_aload_n hx hb dX9_at_7 rfl (lv_at hl 0 rfl) ?_
    refine va_get (D := (dC, dI)) (ci := 8) (v := .ref am) (C := RX9) (T := TX9) (N := 28) hx hb hts (by decide +kernel) hown hK hP 0 rfl rfl 1 (by decide) (hts (.fieldLink RX9 7 "UnibusMachineModel" "memory" "[I") (by decide +kernel)) (fun _ h9 => h9) rfl dX9_at_8 ?_
    refine lv_iload_n hx hb dX9_at_11 rfl (lv_at hl 1 rfl) ?_
    refine lv_iconst (v := 2) hx hb dX9_at_12 (by decide) ?_
    refine lv_idiv hx hb dX9_at_13 (by decide) ?_
    have f1 := fz_div2 a0 (by omega)
    refine va_iald (D := (dC, dI)) hx hb hK hP 1 0 rfl rfl (vp_in_iff.mpr (by constructor <;> omega)) dX9_at_14 ?_
    have hP9 := hP.sub (ws' := [(h0, .inr (8, [.int 0, .ref am, .ref ad, .ref ab, .int 0, .int 224, .ref ar, .int 0, .int 0, .int 0, .int 0, .int 0, .int 0, .ref az, .ref ae, .ref ao, .ref an, .ref au, .int 0, .int 0, .int 0, .ref ap, .ref aw, .int 0, .int 0, .int 0, .int 0, .int 0])), (am, .inl (tm, 512, .inl f))]) [0, 1] rfl
    have hD9 := hD.sub (ws' := [(h0, .inr (8, [.int 0, .ref am, .ref ad, .ref ab, .int 0, .int 224, .ref ar, .int 0, .int 0, .int 0, .int 0, .int 0, .int 0, .ref az, .ref ae, .ref ao, .ref an, .ref au, .int 0, .int 0, .int 0, .ref ap, .ref aw, .int 0, .int 0, .int 0, .int 0, .int 0])), (am, .inl (tm, 512, .inl f))]) [0, 1] (by decide) rfl
    have hK9 := hK.sub (tys' := [(tm, .int)]) [0] rfl
    exact W.iret (v := f (a0 / 2 : Int32).toNatClampNeg) hx hb hr (fun t ht hW => ⟨⟨f (a0 / 2 : Int32).toNatClampNeg, (), rfl, hF0 _, by rw [ht]; exact hP9, va_K.moved hW.alike hK9, hD9⟩, hS.F ht⟩) hS.2.2 dX9_at_15
set_option maxHeartbeats 4000000 in
set_option maxRecDepth 100000 in
theorem c_m_put1 (l : Launch) (dC : Nat → ClassId) (dI : Nat → Nat → Nat) (h0 : Nat) (am : Nat) (ad : Nat) (ab : Nat) (ar : Nat) (az : Nat) (ae : Nat) (ao : Nat) (an : Nat) (au : Nat) (ap : Nat) (aw : Nat) (sz : Nat) : Met l yX9_put wsX9_put ({ frames := 0, cells := 0, slots := 0, locals := 0 } : Room) (va_Pc [.ref h0, .int 7, .int 3] (fun U => U.heap.size = sz ∧ va_P (dC, dI) vwCl [(h0, .inr (8, [.int 0, .ref am, .ref ad, .ref ab, .int 0, .int 224, .ref ar, .int 0, .int 0, .int 0, .int 4, .int 0, .int 0, .ref az, .ref ae, .ref ao, .ref an, .ref au, .int 0, .int 0, .int 0, .ref ap, .ref aw, .int 0, .int 0, .int 0, .int 0, .int 0]))] U.heap ∧ va_K (dC, dI) vwCl [] U ∧ va_D (fun _ => True) [(h0, .inr (8, [.int 0, .ref am, .ref ad, .ref ab, .int 0, .int 224, .ref ar, .int 0, .int 0, .int 0, .int 4, .int 0, .int 0, .ref az, .ref ae, .ref ao, .ref an, .ref au, .int 0, .int 0, .int 0, .ref ap, .ref aw, .int 0, .int 0, .int 0, .int 0, .int 0]))])) (va_Qv (fun (u : Unit) => True) (fun (u : Unit) (t : State) => va_P (dC, dI) vwCl [(h0, .inr (8, [.int 0, .ref am, .ref ad, .ref ab, .int 0, .int 224, .ref ar, .int 0, .int 0, .int 0, .int 4, .int 0, .int 0, .ref az, .ref ae, .ref ao, .ref an, .ref au, .int 0, .int 0, .int 0, .ref ap, .ref aw, .int 0, .int 0, .int 0, .int 0, .int 0]))] t.heap ∧ va_K (dC, dI) vwCl [] t ∧ va_D (va_A [(h0, .inr (8, [.int 0, .ref am, .ref ad, .ref ab, .int 0, .int 224, .ref ar, .int 0, .int 0, .int 0, .int 4, .int 0, .int 0, .ref az, .ref ae, .ref ao, .ref an, .ref au, .int 0, .int 0, .int 0, .ref ap, .ref aw, .int 0, .int 0, .int 0, .int 0, .int 0]))] sz) [(h0, .inr (8, [.int 0, .ref am, .ref ad, .ref ab, .int 0, .int 224, .ref ar, .int 0, .int 0, .int 0, .int 4, .int 0, .int 0, .ref az, .ref ae, .ref ao, .ref an, .ref au, .int 0, .int 0, .int 0, .ref ap, .ref aw, .int 0, .int 0, .int 0, .int 0, .int 0]))]) (va_A [(h0, .inr (8, [.int 0, .ref am, .ref ad, .ref ab, .int 0, .int 224, .ref ar, .int 0, .int 0, .int 0, .int 4, .int 0, .int 0, .ref az, .ref ae, .ref ao, .ref an, .ref au, .int 0, .int 0, .int 0, .ref ap, .ref aw, .int 0, .int 0, .int 0, .int 0, .int 0]))] sz)) 0 0 (va_A [(h0, .inr (8, [.int 0, .ref am, .ref ad, .ref ab, .int 0, .int 224, .ref ar, .int 0, .int 0, .int 0, .int 4, .int 0, .int 0, .ref az, .ref ae, .ref ao, .ref an, .ref au, .int 0, .int 0, .int 0, .ref ap, .ref aw, .int 0, .int 0, .int 0, .int 0, .int 0]))] sz) := by
  refine Met.ofW (cc := cX9_put) (maxL := 3) (ret := none) (by decide) rfl ?_
  intro p e s m args below meth c s₁ B hml hv
  obtain ⟨rfl, hsz, hP, hK, hD0⟩ := hv
  have hx := B.exec
  have hb := B.bytes
  have hr := B.returns
  have hts := atoms_spec (ws := wsX9_put) B.pre
  have hown : s.vm.findClass RX9 = some m.cls := findClass_of_methodNamed B.named
  have hlocks := B.notSynchronized
  have hD := hD0.self (sz := sz)
  generalize hAe : va_A [(h0, .inr (8, [.int 0, .ref am, .ref ad, .ref ab, .int 0, .int 224, .ref ar, .int 0, .int 0, .int 0, .int 4, .int 0, .int 0, .ref az, .ref ae, .ref ao, .ref an, .ref au, .int 0, .int 0, .int 0, .ref ap, .ref aw, .int 0, .int 0, .int 0, .int 0, .int 0]))] sz = A at hD ⊢
  have hA : ∀ q : Nat, s.heap.size ≤ q → A q := fun q h => by rw [← hAe]; exact Or.inr (by omega)
  have hS0 : ∀ G : Heap, s.heap = G → va_S A s.heap G [] := fun G h => by subst h; exact va_S.rf
  generalize hHe : s.heap = H at hP ⊢
  have hS := hS0 H hHe
  have hP : va_P (dC, dI) vwCl [(h0, .inr (8, [.int 0, .ref am, .ref ad, .ref ab, .int 0, .int 224, .ref ar, .int 0, .int 0, .int 0, .int 4, .int 0, .int 0, .ref az, .ref ae, .ref ao, .ref an, .ref au, .int 0, .int 0, .int 0, .ref ap, .ref aw, .int 0, .int 0, .int 0, .int 0, .int 0]))] H := hP
  have hD : va_D A [(h0, .inr (8, [.int 0, .ref am, .ref ad, .ref ab, .int 0, .int 224, .ref ar, .int 0, .int 0, .int 0, .int 4, .int 0, .int 0, .ref az, .ref ae, .ref ao, .ref an, .ref au, .int 0, .int 0, .int 0, .ref ap, .ref aw, .int 0, .int 0, .int 0, .int 0, .int 0]))] := hD
  have hK : va_K (dC, dI) vwCl [] s := hK
  have hl := lv_entry ([.ref h0, .int 7, .int 3]) (n := 3) (Nat.le_of_ble_eq_true rfl)
  rw [lg_entry_eq]
  generalize (lg_sl ([.ref h0, .int 7, .int 3]) ++ List.replicate (3 - (lg_sl ([.ref h0, .int 7, .int 3])).length) Slot.unset).toArray = ls at hl ⊢
  have hl : lv_has ls 3 [(0, .ref h0), (1, .int 7), (2, .int 3)] := hl
  refine lv_aload_n hx hb dX9_put_0 rfl (lv_at hl 0 rfl) ?_
  refine va_get (D := (dC, dI)) (ci := 8) (v := .int 4) (C := RX9) (T := TX9) (N := 28) hx hb hts (by decide +kernel) hown hK hP 0 rfl rfl 10 (by decide) (hts (.fieldLink RX9 87 "UnibusMachineModel" "wrong" "I") (by decide +kernel)) (fun _ h9 => h9) rfl dX9_put_1 ?_
  refine lv_if_ne (tgt := 17) hx hb dX9_put_4 (by decide) (fun c1 => ?_) (fun c1 => ?_)
  · skip
    have hP9 := hP.sub (ws' := [(h0, .inr (8, [.int 0, .ref am, .ref ad, .ref ab, .int 0, .int 224, .ref ar, .int 0, .int 0, .int 0, .int 4, .int 0, .int 0, .ref az, .ref ae, .ref ao, .ref an, .ref au, .int 0, .int 0, .int 0, .ref ap, .ref aw, .int 0, .int 0, .int 0, .int 0, .int 0]))]) [0] rfl
    have hD9 := hD.sub (ws' := [(h0, .inr (8, [.int 0, .ref am, .ref ad, .ref ab, .int 0, .int 224, .ref ar, .int 0, .int 0, .int 0, .int 4, .int 0, .int 0, .ref az, .ref ae, .ref ao, .ref an, .ref au, .int 0, .int 0, .int 0, .ref ap, .ref aw, .int 0, .int 0, .int 0, .int 0, .int 0]))]) [0] (by decide) rfl
    have hK9 := hK.sub (tys' := []) [] rfl
    exact W.vret hx hb hr (fun t ht hW => ⟨⟨(), rfl, trivial, by rw [ht]; exact hP9, va_K.moved hW.alike hK9, hD9⟩, hS.F ht⟩) hS.2.2 dX9_put_17
  · exact absurd c1 (by decide)
set_option maxHeartbeats 4000000 in
set_option maxRecDepth 100000 in
theorem c_m_put7 (l : Launch) (dC : Nat → ClassId) (dI : Nat → Nat → Nat) (h0 : Nat) (am : Nat) (ad : Nat) (ab : Nat) (ar : Nat) (az : Nat) (ae : Nat) (ao : Nat) (an : Nat) (au : Nat) (ap : Nat) (aw : Nat) (tr : ClassId) (g : Nat → Int32) (z : Int) (sz : Nat) (hF0 : g (7 : Int32).toNatClampNeg = 1) (hF1 : (g (6 : Int32).toNatClampNeg).toInt = z) : Met l yX9_put wsX9_put ({ frames := 0, cells := 0, slots := 0, locals := 0 } : Room) (va_Pc [.ref h0, .int 7, .int 1] (fun U => U.heap.size = sz ∧ va_P (dC, dI) vwCl [(h0, .inr (8, [.int 0, .ref am, .ref ad, .ref ab, .int 0, .int 224, .ref ar, .int 0, .int 0, .int 0, .int 0, .int 0, .int 0, .ref az, .ref ae, .ref ao, .ref an, .ref au, .int 0, .int 0, .int 0, .ref ap, .ref aw, .int 0, .int 0, .int 0, .int 0, .int 0])), (ar, .inl (tr, 8, .inl g))] U.heap ∧ va_K (dC, dI) vwCl [(tr, .int)] U ∧ va_D (fun _ => True) [(h0, .inr (8, [.int 0, .ref am, .ref ad, .ref ab, .int 0, .int 224, .ref ar, .int 0, .int 0, .int 0, .int 0, .int 0, .int 0, .ref az, .ref ae, .ref ao, .ref an, .ref au, .int 0, .int 0, .int 0, .ref ap, .ref aw, .int 0, .int 0, .int 0, .int 0, .int 0])), (ar, .inl (tr, 8, .inl g))])) (va_Qv (fun (u : (Nat → Int32)) => (u (7 : Int32).toNatClampNeg = 1) ∧ ((u (6 : Int32).toNatClampNeg).toInt = z)) (fun (u : (Nat → Int32)) (t : State) => va_P (dC, dI) vwCl [(h0, .inr (8, [.int 0, .ref am, .ref ad, .ref ab, .int 0, .int 224, .ref ar, .int 0, .int 0, .int 0, .int 0, .int 0, .int 0, .ref az, .ref ae, .ref ao, .ref an, .ref au, .int 0, .int 0, .int 0, .ref ap, .ref aw, .int 0, .int 0, .int 0, .int 0, .int 0])), (ar, .inl (tr, 8, .inl u))] t.heap ∧ va_K (dC, dI) vwCl [(tr, .int)] t ∧ va_D (va_A [(h0, .inr (8, [.int 0, .ref am, .ref ad, .ref ab, .int 0, .int 224, .ref ar, .int 0, .int 0, .int 0, .int 0, .int 0, .int 0, .ref az, .ref ae, .ref ao, .ref an, .ref au, .int 0, .int 0, .int 0, .ref ap, .ref aw, .int 0, .int 0, .int 0, .int 0, .int 0])), (ar, .inl (tr, 8, .inl g))] sz) [(h0, .inr (8, [.int 0, .ref am, .ref ad, .ref ab, .int 0, .int 224, .ref ar, .int 0, .int 0, .int 0, .int 0, .int 0, .int 0, .ref az, .ref ae, .ref ao, .ref an, .ref au, .int 0, .int 0, .int 0, .ref ap, .ref aw, .int 0, .int 0, .int 0, .int 0, .int 0])), (ar, .inl (tr, 8, .inl u))]) (va_A [(h0, .inr (8, [.int 0, .ref am, .ref ad, .ref ab, .int 0, .int 224, .ref ar, .int 0, .int 0, .int 0, .int 0, .int 0, .int 0, .ref az, .ref ae, .ref ao, .ref an, .ref au, .int 0, .int 0, .int 0, .ref ap, .ref aw, .int 0, .int 0, .int 0, .int 0, .int 0])), (ar, .inl (tr, 8, .inl g))] sz)) 0 0 (va_A [(h0, .inr (8, [.int 0, .ref am, .ref ad, .ref ab, .int 0, .int 224, .ref ar, .int 0, .int 0, .int 0, .int 0, .int 0, .int 0, .ref az, .ref ae, .ref ao, .ref an, .ref au, .int 0, .int 0, .int 0, .ref ap, .ref aw, .int 0, .int 0, .int 0, .int 0, .int 0])), (ar, .inl (tr, 8, .inl g))] sz) := by
  refine Met.ofW (cc := cX9_put) (maxL := 3) (ret := none) (by decide) rfl ?_
  intro p e s m args below meth c s₁ B hml hv
  obtain ⟨rfl, hsz, hP, hK, hD0⟩ := hv
  have hx := B.exec
  have hb := B.bytes
  have hr := B.returns
  have hts := atoms_spec (ws := wsX9_put) B.pre
  have hown : s.vm.findClass RX9 = some m.cls := findClass_of_methodNamed B.named
  have hlocks := B.notSynchronized
  have hD := hD0.self (sz := sz)
  generalize hAe : va_A [(h0, .inr (8, [.int 0, .ref am, .ref ad, .ref ab, .int 0, .int 224, .ref ar, .int 0, .int 0, .int 0, .int 0, .int 0, .int 0, .ref az, .ref ae, .ref ao, .ref an, .ref au, .int 0, .int 0, .int 0, .ref ap, .ref aw, .int 0, .int 0, .int 0, .int 0, .int 0])), (ar, .inl (tr, 8, .inl g))] sz = A at hD ⊢
  have hA : ∀ q : Nat, s.heap.size ≤ q → A q := fun q h => by rw [← hAe]; exact Or.inr (by omega)
  have hS0 : ∀ G : Heap, s.heap = G → va_S A s.heap G [] := fun G h => by subst h; exact va_S.rf
  generalize hHe : s.heap = H at hP ⊢
  have hS := hS0 H hHe
  have hP : va_P (dC, dI) vwCl [(h0, .inr (8, [.int 0, .ref am, .ref ad, .ref ab, .int 0, .int 224, .ref ar, .int 0, .int 0, .int 0, .int 0, .int 0, .int 0, .ref az, .ref ae, .ref ao, .ref an, .ref au, .int 0, .int 0, .int 0, .ref ap, .ref aw, .int 0, .int 0, .int 0, .int 0, .int 0])), (ar, .inl (tr, 8, .inl g))] H := hP
  have hD : va_D A [(h0, .inr (8, [.int 0, .ref am, .ref ad, .ref ab, .int 0, .int 224, .ref ar, .int 0, .int 0, .int 0, .int 0, .int 0, .int 0, .ref az, .ref ae, .ref ao, .ref an, .ref au, .int 0, .int 0, .int 0, .ref ap, .ref aw, .int 0, .int 0, .int 0, .int 0, .int 0])), (ar, .inl (tr, 8, .inl g))] := hD
  have hK : va_K (dC, dI) vwCl [(tr, .int)] s := hK
  have hl := lv_entry ([.ref h0, .int 7, .int 1]) (n := 3) (Nat.le_of_ble_eq_true rfl)
  rw [lg_entry_eq]
  generalize (lg_sl ([.ref h0, .int 7, .int 1]) ++ List.replicate (3 - (lg_sl ([.ref h0, .int 7, .int 1])).length) Slot.unset).toArray = ls at hl ⊢
  have hl : lv_has ls 3 [(0, .ref h0), (1, .int 7), (2, .int 1)] := hl
  refine lv_aload_n hx hb dX9_put_0 rfl (lv_at hl 0 rfl) ?_
  refine va_get (D := (dC, dI)) (ci := 8) (v := .int 0) (C := RX9) (T := TX9) (N := 28) hx hb hts (by decide +kernel) hown hK hP 0 rfl rfl 10 (by decide) (hts (.fieldLink RX9 87 "UnibusMachineModel" "wrong" "I") (by decide +kernel)) (fun _ h9 => h9) rfl dX9_put_1 ?_
  refine lv_if_ne (tgt := 17) hx hb dX9_put_4 (by decide) (fun c1 => ?_) (fun c1 => ?_)
  · exact absurd c1 (by decide)
  · skip
    refine lv_aload_n hx hb dX9_put_7 rfl (lv_at hl 0 rfl) ?_
    refine va_get (D := (dC, dI)) (ci := 8) (v := .ref ar) (C := RX9) (T := TX9) (N := 28) hx hb hts (by decide +kernel) hown hK hP 0 rfl rfl 6 (by decide) (hts (.fieldLink RX9 19 "UnibusMachineModel" "reg" "[I") (by decide +kernel)) (fun _ h9 => h9) rfl dX9_put_8 ?_
    refine lv_iload_n hx hb dX9_put_11 rfl (lv_at hl 1 rfl) ?_
    refine lv_iload_n hx hb dX9_put_12 rfl (lv_at hl 2 rfl) ?_
    refine lv_ldc (v := 65535) hx hb hown (hts (.constant RX9 122 (65535)) (by decide +kernel)) dX9_put_13 ?_
    refine lv_iand hx hb dX9_put_15 ?_
    refine lv_topi (fun y2 ey2 => ?_)
    obtain rfl : y2 = 1 := by rw [ey2]; decide
    refine va_iast (D := (dC, dI)) hx hb hK hP hD hS 1 0 rfl rfl (vp_in_iff.mpr (by decide)) dX9_put_16 (fun H locs hP hD hS => ?_)
    have hP : va_P (dC, dI) vwCl [(h0, .inr (8, [.int 0, .ref am, .ref ad, .ref ab, .int 0, .int 224, .ref ar, .int 0, .int 0, .int 0, .int 0, .int 0, .int 0, .ref az, .ref ae, .ref ao, .ref an, .ref au, .int 0, .int 0, .int 0, .ref ap, .ref aw, .int 0, .int 0, .int 0, .int 0, .int 0])), (ar, .inl (tr, 8, .inl (upd g (7 : Int32).toNatClampNeg 1)))] H := hP
    have hD : va_D A [(h0, .inr (8, [.int 0, .ref am, .ref ad, .ref ab, .int 0, .int 224, .ref ar, .int 0, .int 0, .int 0, .int 0, .int 0, .int 0, .ref az, .ref ae, .ref ao, .ref an, .ref au, .int 0, .int 0, .int 0, .ref ap, .ref aw, .int 0, .int 0, .int 0, .int 0, .int 0])), (ar, .inl (tr, 8, .inl (upd g (7 : Int32).toNatClampNeg 1)))] := hD
    obtain ⟨f3, hf3⟩ : ∃ z : Nat → Int32, z = upd g (7 : Int32).toNatClampNeg 1 := ⟨_, rfl⟩
    rw [← hf3] at hP hD
    have hf3_6 : (f3 (6 : Int32).toNatClampNeg).toInt = z := by rw [hf3, pk_un (by decide)]; assumption
    have hf3_7 : f3 (7 : Int32).toNatClampNeg = 1 := by rw [hf3, pk_us]
    have hP : va_P (dC, dI) vwCl [(h0, .inr (8, [.int 0, .ref am, .ref ad, .ref ab, .int 0, .int 224, .ref ar, .int 0, .int 0, .int 0, .int 0, .int 0, .int 0, .ref az, .ref ae, .ref ao, .ref an, .ref au, .int 0, .int 0, .int 0, .ref ap, .ref aw, .int 0, .int 0, .int 0, .int 0, .int 0])), (ar, .inl (tr, 8, .inl f3))] H := hP
    have hD : va_D A [(h0, .inr (8, [.int 0, .ref am, .ref ad, .ref ab, .int 0, .int 224, .ref ar, .int 0, .int 0, .int 0, .int 0, .int 0, .int 0, .ref az, .ref ae, .ref ao, .ref an, .ref au, .int 0, .int 0, .int 0, .ref ap, .ref aw, .int 0, .int 0, .int 0, .int 0, .int 0])), (ar, .inl (tr, 8, .inl f3))] := hD
    have hx4 : f3 (7 : Int32).toNatClampNeg = 1 := by first | assumption | omega
    have hx5 : (f3 (6 : Int32).toNatClampNeg).toInt = z := by first | assumption | omega
    have hP9 := hP.sub (ws' := [(h0, .inr (8, [.int 0, .ref am, .ref ad, .ref ab, .int 0, .int 224, .ref ar, .int 0, .int 0, .int 0, .int 0, .int 0, .int 0, .ref az, .ref ae, .ref ao, .ref an, .ref au, .int 0, .int 0, .int 0, .ref ap, .ref aw, .int 0, .int 0, .int 0, .int 0, .int 0])), (ar, .inl (tr, 8, .inl f3))]) [0, 1] rfl
    have hD9 := hD.sub (ws' := [(h0, .inr (8, [.int 0, .ref am, .ref ad, .ref ab, .int 0, .int 224, .ref ar, .int 0, .int 0, .int 0, .int 0, .int 0, .int 0, .ref az, .ref ae, .ref ao, .ref an, .ref au, .int 0, .int 0, .int 0, .ref ap, .ref aw, .int 0, .int 0, .int 0, .int 0, .int 0])), (ar, .inl (tr, 8, .inl f3))]) [0, 1] (by decide) rfl
    have hK9 := hK.sub (tys' := [(tr, .int)]) [0] rfl
    exact W.vret hx hb hr (fun t ht hW => ⟨⟨(f3), rfl, ⟨hx4, hx5⟩, by rw [ht]; exact hP9, va_K.moved hW.alike hK9, hD9⟩, hS.F ht⟩) hS.2.2 dX9_put_17
set_option maxHeartbeats 4000000 in
set_option maxRecDepth 100000 in
theorem c_m_put6 (l : Launch) (dC : Nat → ClassId) (dI : Nat → Nat → Nat) (h0 : Nat) (am : Nat) (ad : Nat) (ab : Nat) (ar : Nat) (az : Nat) (ae : Nat) (ao : Nat) (an : Nat) (au : Nat) (ap : Nat) (aw : Nat) (tr : ClassId) (g : Nat → Int32) (z : Int) (v0 : Int32) (sz : Nat) (hF0 : g (7 : Int32).toNatClampNeg = 1) (hF1 : (g (6 : Int32).toNatClampNeg).toInt = z) (hH2 : v0.toInt = z - 2) (hH3 : 166 ≤ z) (hH4 : z ≤ 1024) (hH5 : z % 2 = 0) : Met l yX9_put wsX9_put ({ frames := 0, cells := 0, slots := 0, locals := 0 } : Room) (va_Pc [.ref h0, .int 6, .int v0] (fun U => U.heap.size = sz ∧ va_P (dC, dI) vwCl [(h0, .inr (8, [.int 0, .ref am, .ref ad, .ref ab, .int 0, .int 224, .ref ar, .int 0, .int 0, .int 0, .int 0, .int 0, .int 0, .ref az, .ref ae, .ref ao, .ref an, .ref au, .int 0, .int 0, .int 0, .ref ap, .ref aw, .int 0, .int 0, .int 0, .int 0, .int 0])), (ar, .inl (tr, 8, .inl g))] U.heap ∧ va_K (dC, dI) vwCl [(tr, .int)] U ∧ va_D (fun _ => True) [(h0, .inr (8, [.int 0, .ref am, .ref ad, .ref ab, .int 0, .int 224, .ref ar, .int 0, .int 0, .int 0, .int 0, .int 0, .int 0, .ref az, .ref ae, .ref ao, .ref an, .ref au, .int 0, .int 0, .int 0, .ref ap, .ref aw, .int 0, .int 0, .int 0, .int 0, .int 0])), (ar, .inl (tr, 8, .inl g))])) (va_Qv (fun (u : (Nat → Int32)) => (u (7 : Int32).toNatClampNeg = 1) ∧ ((u (6 : Int32).toNatClampNeg).toInt = z - 2)) (fun (u : (Nat → Int32)) (t : State) => va_P (dC, dI) vwCl [(h0, .inr (8, [.int 0, .ref am, .ref ad, .ref ab, .int 0, .int 224, .ref ar, .int 0, .int 0, .int 0, .int 0, .int 0, .int 0, .ref az, .ref ae, .ref ao, .ref an, .ref au, .int 0, .int 0, .int 0, .ref ap, .ref aw, .int 0, .int 0, .int 0, .int 0, .int 0])), (ar, .inl (tr, 8, .inl u))] t.heap ∧ va_K (dC, dI) vwCl [(tr, .int)] t ∧ va_D (va_A [(h0, .inr (8, [.int 0, .ref am, .ref ad, .ref ab, .int 0, .int 224, .ref ar, .int 0, .int 0, .int 0, .int 0, .int 0, .int 0, .ref az, .ref ae, .ref ao, .ref an, .ref au, .int 0, .int 0, .int 0, .ref ap, .ref aw, .int 0, .int 0, .int 0, .int 0, .int 0])), (ar, .inl (tr, 8, .inl g))] sz) [(h0, .inr (8, [.int 0, .ref am, .ref ad, .ref ab, .int 0, .int 224, .ref ar, .int 0, .int 0, .int 0, .int 0, .int 0, .int 0, .ref az, .ref ae, .ref ao, .ref an, .ref au, .int 0, .int 0, .int 0, .ref ap, .ref aw, .int 0, .int 0, .int 0, .int 0, .int 0])), (ar, .inl (tr, 8, .inl u))]) (va_A [(h0, .inr (8, [.int 0, .ref am, .ref ad, .ref ab, .int 0, .int 224, .ref ar, .int 0, .int 0, .int 0, .int 0, .int 0, .int 0, .ref az, .ref ae, .ref ao, .ref an, .ref au, .int 0, .int 0, .int 0, .ref ap, .ref aw, .int 0, .int 0, .int 0, .int 0, .int 0])), (ar, .inl (tr, 8, .inl g))] sz)) 0 0 (va_A [(h0, .inr (8, [.int 0, .ref am, .ref ad, .ref ab, .int 0, .int 224, .ref ar, .int 0, .int 0, .int 0, .int 0, .int 0, .int 0, .ref az, .ref ae, .ref ao, .ref an, .ref au, .int 0, .int 0, .int 0, .ref ap, .ref aw, .int 0, .int 0, .int 0, .int 0, .int 0])), (ar, .inl (tr, 8, .inl g))] sz) := by
  refine Met.ofW (cc := cX9_put) (maxL := 3) (ret := none) (by decide) rfl ?_
  intro p e s m args below meth c s₁ B hml hv
  obtain ⟨rfl, hsz, hP, hK, hD0⟩ := hv
  have hx := B.exec
  have hb := B.bytes
  have hr := B.returns
  have hts := atoms_spec (ws := wsX9_put) B.pre
  have hown : s.vm.findClass RX9 = some m.cls := findClass_of_methodNamed B.named
  have hlocks := B.notSynchronized
  have hD := hD0.self (sz := sz)
  generalize hAe : va_A [(h0, .inr (8, [.int 0, .ref am, .ref ad, .ref ab, .int 0, .int 224, .ref ar, .int 0, .int 0, .int 0, .int 0, .int 0, .int 0, .ref az, .ref ae, .ref ao, .ref an, .ref au, .int 0, .int 0, .int 0, .ref ap, .ref aw, .int 0, .int 0, .int 0, .int 0, .int 0])), (ar, .inl (tr, 8, .inl g))] sz = A at hD ⊢
  have hA : ∀ q : Nat, s.heap.size ≤ q → A q := fun q h => by rw [← hAe]; exact Or.inr (by omega)
  have hS0 : ∀ G : Heap, s.heap = G → va_S A s.heap G [] := fun G h => by subst h; exact va_S.rf
  generalize hHe : s.heap = H at hP ⊢
  have hS := hS0 H hHe
  have hP : va_P (dC, dI) vwCl [(h0, .inr (8, [.int 0, .ref am, .ref ad, .ref ab, .int 0, .int 224, .ref ar, .int 0, .int 0, .int 0, .int 0, .int 0, .int 0, .ref az, .ref ae, .ref ao, .ref an, .ref au, .int 0, .int 0, .int 0, .ref ap, .ref aw, .int 0, .int 0, .int 0, .int 0, .int 0])), (ar, .inl (tr, 8, .inl g))] H := hP
  have hD : va_D A [(h0, .inr (8, [.int 0, .ref am, .ref ad, .ref ab, .int 0, .int 224, .ref ar, .int 0, .int 0, .int 0, .int 0, .int 0, .int 0, .ref az, .ref ae, .ref ao, .ref an, .ref au, .int 0, .int 0, .int 0, .ref ap, .ref aw, .int 0, .int 0, .int 0, .int 0, .int 0])), (ar, .inl (tr, 8, .inl g))] := hD
  have hK : va_K (dC, dI) vwCl [(tr, .int)] s := hK
  have hl := lv_entry ([.ref h0, .int 6, .int v0]) (n := 3) (Nat.le_of_ble_eq_true rfl)
  rw [lg_entry_eq]
  generalize (lg_sl ([.ref h0, .int 6, .int v0]) ++ List.replicate (3 - (lg_sl ([.ref h0, .int 6, .int v0])).length) Slot.unset).toArray = ls at hl ⊢
  have hl : lv_has ls 3 [(0, .ref h0), (1, .int 6), (2, .int v0)] := hl
  refine lv_aload_n hx hb dX9_put_0 rfl (lv_at hl 0 rfl) ?_
  refine va_get (D := (dC, dI)) (ci := 8) (v := .int 0) (C := RX9) (T := TX9) (N := 28) hx hb hts (by decide +kernel) hown hK hP 0 rfl rfl 10 (by decide) (hts (.fieldLink RX9 87 "UnibusMachineModel" "wrong" "I") (by decide +kernel)) (fun _ h9 => h9) rfl dX9_put_1 ?_
  refine lv_if_ne (tgt := 17) hx hb dX9_put_4 (by decide) (fun c1 => ?_) (fun c1 => ?_)
  · exact absurd c1 (by decide)
  · skip
    refine lv_aload_n hx hb dX9_put_7 rfl (lv_at hl 0 rfl) ?_
    refine va_get (D := (dC, dI)) (ci := 8) (v := .ref ar) (C := RX9) (T := TX9) (N := 28) hx hb hts (by decide +kernel) hown hK hP 0 rfl rfl 6 (by decide) (hts (.fieldLink RX9 19 "UnibusMachineModel" "reg" "[I") (by decide +kernel)) (fun _ h9 => h9) rfl dX9_put_8 ?_
    refine lv_iload_n hx hb dX9_put_11 rfl (lv_at hl 1 rfl) ?_
    refine lv_iload_n hx hb dX9_put_12 rfl (lv_at hl 2 rfl) ?_
    refine lv_ldc (v := 65535) hx hb hown (hts (.constant RX9 122 (65535)) (by decide +kernel)) dX9_put_13 ?_
    refine lv_iand hx hb dX9_put_15 ?_
    refine va_iast (D := (dC, dI)) hx hb hK hP hD hS 1 0 rfl rfl (vp_in_iff.mpr (by decide)) dX9_put_16 (fun H locs hP hD hS => ?_)
    have hP : va_P (dC, dI) vwCl [(h0, .inr (8, [.int 0, .ref am, .ref ad, .ref ab, .int 0, .int 224, .ref ar, .int 0, .int 0, .int 0, .int 0, .int 0, .int 0, .ref az, .ref ae, .ref ao, .ref an, .ref au, .int 0, .int 0, .int 0, .ref ap, .ref aw, .int 0, .int 0, .int 0, .int 0, .int 0])), (ar, .inl (tr, 8, .inl (upd g (6 : Int32).toNatClampNeg (v0 &&& 65535))))] H := hP
    have hD : va_D A [(h0, .inr (8, [.int 0, .ref am, .ref ad, .ref ab, .int 0, .int 224, .ref ar, .int 0, .int 0, .int 0, .int 0, .int 0, .int 0, .ref az, .ref ae, .ref ao, .ref an, .ref au, .int 0, .int 0, .int 0, .ref ap, .ref aw, .int 0, .int 0, .int 0, .int 0, .int 0])), (ar, .inl (tr, 8, .inl (upd g (6 : Int32).toNatClampNeg (v0 &&& 65535))))] := hD
    obtain ⟨f2, hf2⟩ : ∃ z : Nat → Int32, z = upd g (6 : Int32).toNatClampNeg (v0 &&& 65535) := ⟨_, rfl⟩
    rw [← hf2] at hP hD
    have hf2_7 : f2 (7 : Int32).toNatClampNeg = 1 := by rw [hf2, pk_un (by decide)]; assumption
    have hf2_6 : (f2 (6 : Int32).toNatClampNeg).toInt = z - 2 := by rw [hf2, pk_us]; rw [fz_mask _ (by omega) (by omega)]; omega
    have hP : va_P (dC, dI) vwCl [(h0, .inr (8, [.int 0, .ref am, .ref ad, .ref ab, .int 0, .int 224, .ref ar, .int 0, .int 0, .int 0, .int 0, .int 0, .int 0, .ref az, .ref ae, .ref ao, .ref an, .ref au, .int 0, .int 0, .int 0, .ref ap, .ref aw, .int 0, .int 0, .int 0, .int 0, .int 0])), (ar, .inl (tr, 8, .inl f2))] H := hP
    have hD : va_D A [(h0, .inr (8, [.int 0, .ref am, .ref ad, .ref ab, .int 0, .int 224, .ref ar, .int 0, .int 0, .int 0, .int 0, .int 0, .int 0, .ref az, .ref ae, .ref ao, .ref an, .ref au, .int 0, .int 0, .int 0, .ref ap, .ref aw, .int 0, .int 0, .int 0, .int 0, .int 0])), (ar, .inl (tr, 8, .inl f2))] := hD
    have hx3 : f2 (7 : Int32).toNatClampNeg = 1 := by first | assumption | omega
    have hx4 : (f2 (6 : Int32).toNatClampNeg).toInt = z - 2 := by first | assumption | omega
    have hP9 := hP.sub (ws' := [(h0, .inr (8, [.int 0, .ref am, .ref ad, .ref ab, .int 0, .int 224, .ref ar, .int 0, .int 0, .int 0, .int 0, .int 0, .int 0, .ref az, .ref ae, .ref ao, .ref an, .ref au, .int 0, .int 0, .int 0, .ref ap, .ref aw, .int 0, .int 0, .int 0, .int 0, .int 0])), (ar, .inl (tr, 8, .inl f2))]) [0, 1] rfl
    have hD9 := hD.sub (ws' := [(h0, .inr (8, [.int 0, .ref am, .ref ad, .ref ab, .int 0, .int 224, .ref ar, .int 0, .int 0, .int 0, .int 0, .int 0, .int 0, .ref az, .ref ae, .ref ao, .ref an, .ref au, .int 0, .int 0, .int 0, .ref ap, .ref aw, .int 0, .int 0, .int 0, .int 0, .int 0])), (ar, .inl (tr, 8, .inl f2))]) [0, 1] (by decide) rfl
    have hK9 := hK.sub (tys' := [(tr, .int)]) [0] rfl
    exact W.vret hx hb hr (fun t ht hW => ⟨⟨(f2), rfl, ⟨hx3, hx4⟩, by rw [ht]; exact hP9, va_K.moved hW.alike hK9, hD9⟩, hS.F ht⟩) hS.2.2 dX9_put_17
set_option maxHeartbeats 4000000 in
set_option maxRecDepth 100000 in
theorem c_m_fetch (l : Launch) (dC : Nat → ClassId) (dI : Nat → Nat → Nat) (h0 : Nat) (am : Nat) (ad : Nat) (ab : Nat) (ar : Nat) (az : Nat) (ae : Nat) (ao : Nat) (an : Nat) (au : Nat) (ap : Nat) (aw : Nat) (tr : ClassId) (g : Nat → Int32) (sz : Nat) (hF0 : g (7 : Int32).toNatClampNeg = 1) : Met l yX9_fetch wsX9_fetch ({ frames := 2, cells := 0, slots := 0, locals := 49 } : Room) (va_Pc [.ref h0] (fun U => U.heap.size = sz ∧ va_P (dC, dI) vwCl [(h0, .inr (8, [.int 0, .ref am, .ref ad, .ref ab, .int 0, .int 224, .ref ar, .int 0, .int 0, .int 0, .int 0, .int 0, .int 0, .ref az, .ref ae, .ref ao, .ref an, .ref au, .int 0, .int 0, .int 0, .ref ap, .ref aw, .int 0, .int 0, .int 0, .int 0, .int 0])), (ar, .inl (tr, 8, .inl g))] U.heap ∧ va_K (dC, dI) vwCl [(tr, .int)] U ∧ va_D (fun _ => True) [(h0, .inr (8, [.int 0, .ref am, .ref ad, .ref ab, .int 0, .int 224, .ref ar, .int 0, .int 0, .int 0, .int 0, .int 0, .int 0, .ref az, .ref ae, .ref ao, .ref an, .ref au, .int 0, .int 0, .int 0, .ref ap, .ref aw, .int 0, .int 0, .int 0, .int 0, .int 0])), (ar, .inl (tr, 8, .inl g))])) (va_Qi (fun (r : Int32) (u : Unit) => (0 = r)) (fun (u : Unit) (t : State) => va_P (dC, dI) vwCl [(h0, .inr (8, [.int 0, .ref am, .ref ad, .ref ab, .int 0, .int 224, .ref ar, .int 0, .int 0, .int 0, .int 4, .int 0, .int 0, .ref az, .ref ae, .ref ao, .ref an, .ref au, .int 0, .int 0, .int 0, .ref ap, .ref aw, .int 0, .int 0, .int 0, .int 0, .int 0])), (ar, .inl (tr, 8, .inl g))] t.heap ∧ va_K (dC, dI) vwCl [(tr, .int)] t ∧ va_D (va_A [(h0, .inr (8, [.int 0, .ref am, .ref ad, .ref ab, .int 0, .int 224, .ref ar, .int 0, .int 0, .int 0, .int 0, .int 0, .int 0, .ref az, .ref ae, .ref ao, .ref an, .ref au, .int 0, .int 0, .int 0, .ref ap, .ref aw, .int 0, .int 0, .int 0, .int 0, .int 0])), (ar, .inl (tr, 8, .inl g))] sz) [(h0, .inr (8, [.int 0, .ref am, .ref ad, .ref ab, .int 0, .int 224, .ref ar, .int 0, .int 0, .int 0, .int 4, .int 0, .int 0, .ref az, .ref ae, .ref ao, .ref an, .ref au, .int 0, .int 0, .int 0, .ref ap, .ref aw, .int 0, .int 0, .int 0, .int 0, .int 0])), (ar, .inl (tr, 8, .inl g))]) (va_A [(h0, .inr (8, [.int 0, .ref am, .ref ad, .ref ab, .int 0, .int 224, .ref ar, .int 0, .int 0, .int 0, .int 0, .int 0, .int 0, .ref az, .ref ae, .ref ao, .ref an, .ref au, .int 0, .int 0, .int 0, .ref ap, .ref aw, .int 0, .int 0, .int 0, .int 0, .int 0])), (ar, .inl (tr, 8, .inl g))] sz)) 0 0 (va_A [(h0, .inr (8, [.int 0, .ref am, .ref ad, .ref ab, .int 0, .int 224, .ref ar, .int 0, .int 0, .int 0, .int 0, .int 0, .int 0, .ref az, .ref ae, .ref ao, .ref an, .ref au, .int 0, .int 0, .int 0, .ref ap, .ref aw, .int 0, .int 0, .int 0, .int 0, .int 0])), (ar, .inl (tr, 8, .inl g))] sz) := by
  refine Met.ofW (cc := cX9_fetch) (maxL := 2) (ret := (some .int)) (by decide) rfl ?_
  intro p e s m args below meth c s₁ B hml hv
  obtain ⟨rfl, hsz, hP, hK, hD0⟩ := hv
  have hx := B.exec
  have hb := B.bytes
  have hr := B.returns
  have hts := atoms_spec (ws := wsX9_fetch) B.pre
  have hown : s.vm.findClass RX9 = some m.cls := findClass_of_methodNamed B.named
  have hlocks := B.notSynchronized
  have hD := hD0.self (sz := sz)
  generalize hAe : va_A [(h0, .inr (8, [.int 0, .ref am, .ref ad, .ref ab, .int 0, .int 224, .ref ar, .int 0, .int 0, .int 0, .int 0, .int 0, .int 0, .ref az, .ref ae, .ref ao, .ref an, .ref au, .int 0, .int 0, .int 0, .ref ap, .ref aw, .int 0, .int 0, .int 0, .int 0, .int 0])), (ar, .inl (tr, 8, .inl g))] sz = A at hD ⊢
  have hA : ∀ q : Nat, s.heap.size ≤ q → A q := fun q h => by rw [← hAe]; exact Or.inr (by omega)
  have hS0 : ∀ G : Heap, s.heap = G → va_S A s.heap G [] := fun G h => by subst h; exact va_S.rf
  generalize hHe : s.heap = H at hP ⊢
  have hS := hS0 H hHe
  have hP : va_P (dC, dI) vwCl [(h0, .inr (8, [.int 0, .ref am, .ref ad, .ref ab, .int 0, .int 224, .ref ar, .int 0, .int 0, .int 0, .int 0, .int 0, .int 0, .ref az, .ref ae, .ref ao, .ref an, .ref au, .int 0, .int 0, .int 0, .ref ap, .ref aw, .int 0, .int 0, .int 0, .int 0, .int 0])), (ar, .inl (tr, 8, .inl g))] H := hP
  have hD : va_D A [(h0, .inr (8, [.int 0, .ref am, .ref ad, .ref ab, .int 0, .int 224, .ref ar, .int 0, .int 0, .int 0, .int 0, .int 0, .int 0, .ref az, .ref ae, .ref ao, .ref an, .ref au, .int 0, .int 0, .int 0, .ref ap, .ref aw, .int 0, .int 0, .int 0, .int 0, .int 0])), (ar, .inl (tr, 8, .inl g))] := hD
  have hK : va_K (dC, dI) vwCl [(tr, .int)] s := hK
  have hl := lv_entry ([.ref h0]) (n := 2) (Nat.le_of_ble_eq_true rfl)
  rw [lg_entry_eq]
  generalize (lg_sl ([.ref h0]) ++ List.replicate (2 - (lg_sl ([.ref h0])).length) Slot.unset).toArray = ls at hl ⊢
  have hl : lv_has ls 2 [(0, .ref h0)] := hl
  refine lv_aload_n hx hb dX9_fetch_0 rfl (lv_at hl 0 rfl) ?_
  refine lv_aload_n hx hb dX9_fetch_1 rfl (lv_at hl 0 rfl) ?_
  refine va_get (D := (dC, dI)) (ci := 8) (v := .ref ar) (C := RX9) (T := TX9) (N := 28) hx hb hts (by decide +kernel) hown hK hP 0 rfl rfl 6 (by decide) (hts (.fieldLink RX9 19 "UnibusMachineModel" "reg" "[I") (by decide +kernel)) (fun _ h9 => h9) rfl dX9_fetch_2 ?_
  refine lv_bipush (v := 7) hx hb dX9_fetch_5 (by decide) ?_
  refine va_iald (D := (dC, dI)) hx hb hK hP 1 0 rfl rfl (vp_in_iff.mpr (by decide)) dX9_fetch_7 ?_
  refine lv_topi (fun y1 ey1 => ?_)
  obtain rfl : y1 = 1 := by rw [ey1]; assumption
  refine lv_aload_n hx hb dX9_fetch_8 rfl (lv_at hl 0 rfl) ?_
  refine va_get (D := (dC, dI)) (ci := 8) (v := .int 0) (C := RX9) (T := TX9) (N := 28) hx hb hts (by decide +kernel) hown hK hP 0 rfl rfl 8 (by decide) (hts (.fieldLink RX9 116 "UnibusMachineModel" "mode" "I") (by decide +kernel)) (fun _ h9 => h9) rfl dX9_fetch_9 ?_
  have hPc := hP.sub (ws' := [(h0, .inr (8, [.int 0, .ref am, .ref ad, .ref ab, .int 0, .int 224, .ref ar, .int 0, .int 0, .int 0, .int 0, .int 0, .int 0, .ref az, .ref ae, .ref ao, .ref an, .ref au, .int 0, .int 0, .int 0, .ref ap, .ref aw, .int 0, .int 0, .int 0, .int 0, .int 0]))]) [0] rfl
  have hDc := hD.sub (ws' := [(h0, .inr (8, [.int 0, .ref am, .ref ad, .ref ab, .int 0, .int 224, .ref ar, .int 0, .int 0, .int 0, .int 0, .int 0, .int 0, .ref az, .ref ae, .ref ao, .ref an, .ref au, .int 0, .int 0, .int 0, .ref ap, .ref aw, .int 0, .int 0, .int 0, .int 0, .int 0]))]) [0] (by decide) rfl
  have hKc := hK.sub (tys' := []) [] rfl
  have hFc := va_free (wc := [(h0, .inr (8, [.int 0, .ref am, .ref ad, .ref ab, .int 0, .int 224, .ref ar, .int 0, .int 0, .int 0, .int 0, .int 0, .int 0, .ref az, .ref ae, .ref ao, .ref an, .ref au, .int 0, .int 0, .int 0, .ref ap, .ref aw, .int 0, .int 0, .int 0, .int 0, .int 0]))]) hD hS hA [0] rfl
  refine va_calli (va_runV (As := [.int 1, .int 0]) (rest := []) ⟨hx, hb, hml, hown, hts⟩ (c_m_wordOdd l dC dI h0 am ad ab ar az ae ao an au ap aw H.size) (cwV 2 hts gX9_fetch_X9_wordAt rfl rfl rfl (by decide +kernel) ⟨Nat.le_of_ble_eq_true rfl, Nat.le_of_ble_eq_true rfl⟩) ⟨fun a U g mk q => by obtain ⟨q0, q1, qP, qK, qD⟩ := q; exact ⟨q0, q1, qP, va_K.moved (u := U) (U := U.calling g mk a) (Vm.Alike.refl U.vm) qK, qD⟩, va_recv hKc hPc (ci := 8) (q0 := 0) rfl rfl, fun U hU hW => ⟨rfl, by rw [hU], by rw [hU]; exact hPc, va_K.moved hW.alike hKc, hDc.weaken (fun _ _ _ _ => trivial)⟩⟩ rfl rfl hl.1 rfl (lv_room (Nat.le_of_ble_eq_true rfl)) dX9_fetch_12 ⟨Nat.le_of_ble_eq_true rfl, Nat.le_of_ble_eq_true rfl⟩) hS (fun q _ h => hFc q h) hFc (fun r2 u3 t H1 locs ht hvm hw hB hz1 hk1 hS => ?_)
  obtain ⟨hP1, hK1, hD1⟩ := hB
  rw [ht] at hP1
  have hK1 := va_K.moved hvm.symm hK1
  try dsimp only at hw
  obtain ⟨hP, hD⟩ := va_join (wr := [(ar, .inl (tr, 8, .inl g))]) (w1 := [(h0, .inr (8, [.int 0, .ref am, .ref ad, .ref ab, .int 0, .int 224, .ref ar, .int 0, .int 0, .int 0, .int 4, .int 0, .int 0, .ref az, .ref ae, .ref ao, .ref an, .ref au, .int 0, .int 0, .int 0, .ref ap, .ref aw, .int 0, .int 0, .int 0, .int 0, .int 0]))]) hP hD [0] [1] rfl rfl (by decide) (by decide) hk1 hFc hP1 hD1
  have hK := (hK.sub (tys' := [(tr, .int)]) [0] rfl).app hK1
  generalize H1 = H at hP hS ⊢
  have hP : va_P (dC, dI) vwCl [(ar, .inl (tr, 8, .inl g)), (h0, .inr (8, [.int 0, .ref am, .ref ad, .ref ab, .int 0, .int 224, .ref ar, .int 0, .int 0, .int 0, .int 4, .int 0, .int 0, .ref az, .ref ae, .ref ao, .ref an, .ref au, .int 0, .int 0, .int 0, .ref ap, .ref aw, .int 0, .int 0, .int 0, .int 0, .int 0]))] H := hP
  have hD : va_D A [(ar, .inl (tr, 8, .inl g)), (h0, .inr (8, [.int 0, .ref am, .ref ad, .ref ab, .int 0, .int 224, .ref ar, .int 0, .int 0, .int 0, .int 4, .int 0, .int 0, .ref az, .ref ae, .ref ao, .ref an, .ref au, .int 0, .int 0, .int 0, .ref ap, .ref aw, .int 0, .int 0, .int 0, .int 0, .int 0]))] := hD
  have hK : va_K (dC, dI) vwCl [(tr, .int)] s := hK
  refine W.widen (k := 0) (n := 0) (Nat.le_of_ble_eq_true rfl) (Nat.le_of_ble_eq_true rfl) ?_
  obtain rfl := hw
  refine lv_istore_n (lv' := [(1, .int 0), (0, .ref h0)]) hx hb dX9_fetch_15 rfl hl (by decide) rfl (fun ls hl => ?_)
  refine lv_aload_n hx hb dX9_fetch_16 rfl (lv_at hl 1 rfl) ?_
  refine lv_bipush (v := 7) hx hb dX9_fetch_17 (by decide) ?_
  refine lv_aload_n hx hb dX9_fetch_19 rfl (lv_at hl 1 rfl) ?_
  refine va_get (D := (dC, dI)) (ci := 8) (v := .ref ar) (C := RX9) (T := TX9) (N := 28) hx hb hts (by decide +kernel) hown hK hP 1 rfl rfl 6 (by decide) (hts (.fieldLink RX9 19 "UnibusMachineModel" "reg" "[I") (by decide +kernel)) (fun _ h9 => h9) rfl dX9_fetch_20 ?_
  refine lv_bipush (v := 7) hx hb dX9_fetch_23 (by decide) ?_
  refine va_iald (D := (dC, dI)) hx hb hK hP 0 0 rfl rfl (vp_in_iff.mpr (by decide)) dX9_fetch_25 ?_
  refine lv_topi (fun y4 ey4 => ?_)
  obtain rfl : y4 = 1 := by rw [ey4]; assumption
  refine lv_iconst (v := 2) hx hb dX9_fetch_26 (by decide) ?_
  refine lv_iadd hx hb dX9_fetch_27 ?_
  refine lv_topi (fun y5 ey5 => ?_)
  obtain rfl : y5 = 3 := by rw [ey5]; decide
  have hPc := hP.sub (ws' := [(h0, .inr (8, [.int 0, .ref am, .ref ad, .ref ab, .int 0, .int 224, .ref ar, .int 0, .int 0, .int 0, .int 4, .int 0, .int 0, .ref az, .ref ae, .ref ao, .ref an, .ref au, .int 0, .int 0, .int 0, .ref ap, .ref aw, .int 0, .int 0, .int 0, .int 0, .int 0]))]) [1] rfl
  have hDc := hD.sub (ws' := [(h0, .inr (8, [.int 0, .ref am, .ref ad, .ref ab, .int 0, .int 224, .ref ar, .int 0, .int 0, .int 0, .int 4, .int 0, .int 0, .ref az, .ref ae, .ref ao, .ref an, .ref au, .int 0, .int 0, .int 0, .ref ap, .ref aw, .int 0, .int 0, .int 0, .int 0, .int 0]))]) [1] (by decide) rfl
  have hKc := hK.sub (tys' := []) [] rfl
  have hFc := va_free (wc := [(h0, .inr (8, [.int 0, .ref am, .ref ad, .ref ab, .int 0, .int 224, .ref ar, .int 0, .int 0, .int 0, .int 4, .int 0, .int 0, .ref az, .ref ae, .ref ao, .ref an, .ref au, .int 0, .int 0, .int 0, .ref ap, .ref aw, .int 0, .int 0, .int 0, .int 0, .int 0]))]) hD hS hA [1] rfl
  refine va_callv (va_runV (As := [.int 7, .int 3]) (rest := []) ⟨hx, hb, hml, hown, hts⟩ (c_m_put1 l dC dI h0 am ad ab ar az ae ao an au ap aw H.size) (cwV 2 hts gX9_fetch_X9_put rfl rfl rfl (by decide +kernel) ⟨Nat.le_of_ble_eq_true rfl, Nat.le_of_ble_eq_true rfl⟩) ⟨fun a U g mk q => by obtain ⟨q0, q1, qP, qK, qD⟩ := q; exact ⟨q0, q1, qP, va_K.moved (u := U) (U := U.calling g mk a) (Vm.Alike.refl U.vm) qK, qD⟩, va_recv hKc hPc (ci := 8) (q0 := 0) rfl rfl, fun U hU hW => ⟨rfl, by rw [hU], by rw [hU]; exact hPc, va_K.moved hW.alike hKc, hDc.weaken (fun _ _ _ _ => trivial)⟩⟩ rfl rfl hl.1 rfl (lv_room (Nat.le_of_ble_eq_true rfl)) dX9_fetch_28 ⟨Nat.le_of_ble_eq_true rfl, Nat.le_of_ble_eq_true rfl⟩) hS (fun q _ h => hFc q h) hFc (fun u7 t H1 locs ht hvm hw hB hz1 hk1 hS => ?_)
  obtain ⟨hP1, hK1, hD1⟩ := hB
  rw [ht] at hP1
  have hK1 := va_K.moved hvm.symm hK1
  try dsimp only at hw
  obtain ⟨hP, hD⟩ := va_join (wr := [(ar, .inl (tr, 8, .inl g))]) (w1 := [(h0, .inr (8, [.int 0, .ref am, .ref ad, .ref ab, .int 0, .int 224, .ref ar, .int 0, .int 0, .int 0, .int 4, .int 0, .int 0, .ref az, .ref ae, .ref ao, .ref an, .ref au, .int 0, .int 0, .int 0, .ref ap, .ref aw, .int 0, .int 0, .int 0, .int 0, .int 0]))]) hP hD [1] [0] rfl rfl (by decide) (by decide) hk1 hFc hP1 hD1
  have hK := (hK.sub (tys' := [(tr, .int)]) [0] rfl).app hK1
  generalize H1 = H at hP hS ⊢
  have hP : va_P (dC, dI) vwCl [(ar, .inl (tr, 8, .inl g)), (h0, .inr (8, [.int 0, .ref am, .ref ad, .ref ab, .int 0, .int 224, .ref ar, .int 0, .int 0, .int 0, .int 4, .int 0, .int 0, .ref az, .ref ae, .ref ao, .ref an, .ref au, .int 0, .int 0, .int 0, .ref ap, .ref aw, .int 0, .int 0, .int 0, .int 0, .int 0]))] H := hP
  have hD : va_D A [(ar, .inl (tr, 8, .inl g)), (h0, .inr (8, [.int 0, .ref am, .ref ad, .ref ab, .int 0, .int 224, .ref ar, .int 0, .int 0, .int 0, .int 4, .int 0, .int 0, .ref az, .ref ae, .ref ao, .ref an, .ref au, .int 0, .int 0, .int 0, .ref ap, .ref aw, .int 0, .int 0, .int 0, .int 0, .int 0]))] := hD
  have hK : va_K (dC, dI) vwCl [(tr, .int)] s := hK
  refine W.widen (k := 0) (n := 0) (Nat.le_of_ble_eq_true rfl) (Nat.le_of_ble_eq_true rfl) ?_
  refine lv_iload_n hx hb dX9_fetch_31 rfl (lv_at hl 0 rfl) ?_
  have hP9 := hP.sub (ws' := [(h0, .inr (8, [.int 0, .ref am, .ref ad, .ref ab, .int 0, .int 224, .ref ar, .int 0, .int 0, .int 0, .int 4, .int 0, .int 0, .ref az, .ref ae, .ref ao, .ref an, .ref au, .int 0, .int 0, .int 0, .ref ap, .ref aw, .int 0, .int 0, .int 0, .int 0, .int 0])), (ar, .inl (tr, 8, .inl g))]) [1, 0] rfl
  have hD9 := hD.sub (ws' := [(h0, .inr (8, [.int 0, .ref am, .ref ad, .ref ab, .int 0, .int 224, .ref ar, .int 0, .int 0, .int 0, .int 4, .int 0, .int 0, .ref az, .ref ae, .ref ao, .ref an, .ref au, .int 0, .int 0, .int 0, .ref ap, .ref aw, .int 0, .int 0, .int 0, .int 0, .int 0])), (ar, .inl (tr, 8, .inl g))]) [1, 0] (by decide) rfl
  have hK9 := hK.sub (tys' := [(tr, .int)]) [0] rfl
  exact W.iret (v := 0) hx hb hr (fun t ht hW => ⟨⟨0, (), rfl, rfl, by rw [ht]; exact hP9, va_K.moved hW.alike hK9, hD9⟩, hS.F ht⟩) hS.2.2 dX9_fetch_32
set_option maxHeartbeats 4000000 in
set_option maxRecDepth 100000 in
theorem c_m_writeS (l : Launch) (dC : Nat → ClassId) (dI : Nat → Nat → Nat) (h0 : Nat) (am : Nat) (ad : Nat) (ab : Nat) (ar : Nat) (az : Nat) (ae : Nat) (ao : Nat) (an : Nat) (au : Nat) (ap : Nat) (aw : Nat) (tm : ClassId) (f : Nat → Int32) (a0 : Int32) (v0 : Int32) (sz : Nat) (hF0 : f (2 : Int32).toNatClampNeg = 1) (hF1 : f (3 : Int32).toNatClampNeg = 224) (hF2 : ∀ i : Nat, 0 ≤ (f i).toInt) (hH3 : 160 ≤ a0.toInt) (hH4 : a0.toInt < 1024) (hH5 : 0 ≤ v0.toInt) : Met l yX9_write wsX9_write ({ frames := 1, cells := 0, slots := 0, locals := 22 } : Room) (va_Pc [.ref h0, .int a0, .int v0] (fun U => U.heap.size = sz ∧ va_P (dC, dI) vwCl [(h0, .inr (8, [.int 0, .ref am, .ref ad, .ref ab, .int 0, .int 224, .ref ar, .int 0, .int 0, .int 0, .int 0, .int 0, .int 0, .ref az, .ref ae, .ref ao, .ref an, .ref au, .int 0, .int 0, .int 0, .ref ap, .ref aw, .int 0, .int 0, .int 0, .int 0, .int 0])), (am, .inl (tm, 512, .inl f))] U.heap ∧ va_K (dC, dI) vwCl [(tm, .int)] U ∧ va_D (fun _ => True) [(h0, .inr (8, [.int 0, .ref am, .ref ad, .ref ab, .int 0, .int 224, .ref ar, .int 0, .int 0, .int 0, .int 0, .int 0, .int 0, .ref az, .ref ae, .ref ao, .ref an, .ref au, .int 0, .int 0, .int 0, .ref ap, .ref aw, .int 0, .int 0, .int 0, .int 0, .int 0])), (am, .inl (tm, 512, .inl f))])) (va_Qv (fun (u : (Nat → Int32)) => (u (2 : Int32).toNatClampNeg = 1) ∧ (u (3 : Int32).toNatClampNeg = 224) ∧ (∀ i : Nat, 0 ≤ (u i).toInt)) (fun (u : (Nat → Int32)) (t : State) => va_P (dC, dI) vwCl [(h0, .inr (8, [.int 0, .ref am, .ref ad, .ref ab, .int 0, .int 224, .ref ar, .int 0, .int 0, .int 0, .int 0, .int 0, .int 0, .ref az, .ref ae, .ref ao, .ref an, .ref au, .int 0, .int 0, .int 0, .ref ap, .ref aw, .int 0, .int 0, .int 0, .int 0, .int 0])), (am, .inl (tm, 512, .inl u))] t.heap ∧ va_K (dC, dI) vwCl [(tm, .int)] t ∧ va_D (va_A [(h0, .inr (8, [.int 0, .ref am, .ref ad, .ref ab, .int 0, .int 224, .ref ar, .int 0, .int 0, .int 0, .int 0, .int 0, .int 0, .ref az, .ref ae, .ref ao, .ref an, .ref au, .int 0, .int 0, .int 0, .ref ap, .ref aw, .int 0, .int 0, .int 0, .int 0, .int 0])), (am, .inl (tm, 512, .inl f))] sz) [(h0, .inr (8, [.int 0, .ref am, .ref ad, .ref ab, .int 0, .int 224, .ref ar, .int 0, .int 0, .int 0, .int 0, .int 0, .int 0, .ref az, .ref ae, .ref ao, .ref an, .ref au, .int 0, .int 0, .int 0, .ref ap, .ref aw, .int 0, .int 0, .int 0, .int 0, .int 0])), (am, .inl (tm, 512, .inl u))]) (va_A [(h0, .inr (8, [.int 0, .ref am, .ref ad, .ref ab, .int 0, .int 224, .ref ar, .int 0, .int 0, .int 0, .int 0, .int 0, .int 0, .ref az, .ref ae, .ref ao, .ref an, .ref au, .int 0, .int 0, .int 0, .ref ap, .ref aw, .int 0, .int 0, .int 0, .int 0, .int 0])), (am, .inl (tm, 512, .inl f))] sz)) 0 0 (va_A [(h0, .inr (8, [.int 0, .ref am, .ref ad, .ref ab, .int 0, .int 224, .ref ar, .int 0, .int 0, .int 0, .int 0, .int 0, .int 0, .ref az, .ref ae, .ref ao, .ref an, .ref au, .int 0, .int 0, .int 0, .ref ap, .ref aw, .int 0, .int 0, .int 0, .int 0, .int 0])), (am, .inl (tm, 512, .inl f))] sz) := by
  refine Met.ofW (cc := cX9_write) (maxL := 4) (ret := none) (by decide) rfl ?_
  intro p e s m args below meth c s₁ B hml hv
  obtain ⟨rfl, hsz, hP, hK, hD0⟩ := hv
  have hx := B.exec
  have hb := B.bytes
  have hr := B.returns
  have hts := atoms_spec (ws := wsX9_write) B.pre
  have hown : s.vm.findClass RX9 = some m.cls := findClass_of_methodNamed B.named
  have hlocks := B.notSynchronized
  have hD := hD0.self (sz := sz)
  generalize hAe : va_A [(h0, .inr (8, [.int 0, .ref am, .ref ad, .ref ab, .int 0, .int 224, .ref ar, .int 0, .int 0, .int 0, .int 0, .int 0, .int 0, .ref az, .ref ae, .ref ao, .ref an, .ref au, .int 0, .int 0, .int 0, .ref ap, .ref aw, .int 0, .int 0, .int 0, .int 0, .int 0])), (am, .inl (tm, 512, .inl f))] sz = A at hD ⊢
  have hA : ∀ q : Nat, s.heap.size ≤ q → A q := fun q h => by rw [← hAe]; exact Or.inr (by omega)
  have hS0 : ∀ G : Heap, s.heap = G → va_S A s.heap G [] := fun G h => by subst h; exact va_S.rf
  generalize hHe : s.heap = H at hP ⊢
  have hS := hS0 H hHe
  have hP : va_P (dC, dI) vwCl [(h0, .inr (8, [.int 0, .ref am, .ref ad, .ref ab, .int 0, .int 224, .ref ar, .int 0, .int 0, .int 0, .int 0, .int 0, .int 0, .ref az, .ref ae, .ref ao, .ref an, .ref au, .int 0, .int 0, .int 0, .ref ap, .ref aw, .int 0, .int 0, .int 0, .int 0, .int 0])), (am, .inl (tm, 512, .inl f))] H := hP
  have hD : va_D A [(h0, .inr (8, [.int 0, .ref am, .ref ad, .ref ab, .int 0, .int 224, .ref ar, .int 0, .int 0, .int 0, .int 0, .int 0, .int 0, .ref az, .ref ae, .ref ao, .ref an, .ref au, .int 0, .int 0, .int 0, .ref ap, .ref aw, .int 0, .int 0, .int 0, .int 0, .int 0])), (am, .inl (tm, 512, .inl f))] := hD
  have hK : va_K (dC, dI) vwCl [(tm, .int)] s := hK
  have hl := lv_entry ([.ref h0, .int a0, .int v0]) (n := 4) (Nat.le_of_ble_eq_true rfl)
  rw [lg_entry_eq]
  generalize (lg_sl ([.ref h0, .int a0, .int v0]) ++ List.replicate (4 - (lg_sl ([.ref h0, .int a0, .int v0])).length) Slot.unset).toArray = ls at hl ⊢
  have hl : lv_has ls 4 [(0, .ref h0), (1, .int a0), (2, .int v0)] := hl
  refine lv_aload_n hx hb dX9_write_0 rfl (lv_at hl 0 rfl) ?_
  refine va_get (D := (dC, dI)) (ci := 8) (v := .int 0) (C := RX9) (T := TX9) (N := 28) hx hb hts (by decide +kernel) hown hK hP 0 rfl rfl 10 (by decide) (hts (.fieldLink RX9 87 "UnibusMachineModel" "wrong" "I") (by decide +kernel)) (fun _ h9 => h9) rfl dX9_write_1 ?_
  refine lv_if_le (tgt := 8) hx hb dX9_write_4 (by decide) (fun c1 => ?_) (fun c1 => ?_)
  · skip
    refine lv_iload_n hx hb dX9_write_8 rfl (lv_at hl 1 rfl) ?_
    refine lv_ldc (v := 57344) hx hb hown (hts (.constant RX9 64 (57344)) (by decide +kernel)) dX9_write_9 ?_
    refine lv_isub hx hb dX9_write_11 ?_
    have kk57344 : (57344 : Int32).toInt = 57344 := by decide
    have f1 := fz_sub a0 57344 (by omega) (by omega)
    refine lv_istore_n (lv' := [(3, .int (a0 - 57344)), (0, .ref h0), (1, .int a0), (2, .int v0)]) hx hb dX9_write_12 rfl hl (by decide) rfl (fun ls hl => ?_)
    refine lv_aload_n hx hb dX9_write_13 rfl (lv_at hl 1 rfl) ?_
    refine lv_iload_n hx hb dX9_write_14 rfl (lv_at hl 2 rfl) ?_
    have hPc := hP.sub (ws' := [(h0, .inr (8, [.int 0, .ref am, .ref ad, .ref ab, .int 0, .int 224, .ref ar, .int 0, .int 0, .int 0, .int 0, .int 0, .int 0, .ref az, .ref ae, .ref ao, .ref an, .ref au, .int 0, .int 0, .int 0, .ref ap, .ref aw, .int 0, .int 0, .int 0, .int 0, .int 0])), (am, .inl (tm, 512, .inl f))]) [0, 1] rfl
    have hDc := hD.sub (ws' := [(h0, .inr (8, [.int 0, .ref am, .ref ad, .ref ab, .int 0, .int 224, .ref ar, .int 0, .int 0, .int 0, .int 0, .int 0, .int 0, .ref az, .ref ae, .ref ao, .ref an, .ref au, .int 0, .int 0, .int 0, .ref ap, .ref aw, .int 0, .int 0, .int 0, .int 0, .int 0])), (am, .inl (tm, 512, .inl f))]) [0, 1] (by decide) rfl
    have hKc := hK.sub (tys' := [(tm, .int)]) [0] rfl
    have hFc := va_free (wc := [(h0, .inr (8, [.int 0, .ref am, .ref ad, .ref ab, .int 0, .int 224, .ref ar, .int 0, .int 0, .int 0, .int 0, .int 0, .int 0, .ref az, .ref ae, .ref ao, .ref an, .ref au, .int 0, .int 0, .int 0, .ref ap, .ref aw, .int 0, .int 0, .int 0, .int 0, .int 0])), (am, .inl (tm, 512, .inl f))]) hD hS hA [0, 1] rfl
    refine va_calli (va_runV (As := [.int a0]) (rest := []) ⟨hx, hb, hml, hown, hts⟩ (c_m_atS l dC dI h0 am ad ab ar az ae ao an au ap aw tm f a0 H.size (by first | assumption | omega | decide) (by first | assumption | omega | decide) (by first | assumption | omega | decide)) (cwV 1 hts gX9_write_X9_at rfl rfl rfl (by decide +kernel) ⟨Nat.le_of_ble_eq_true rfl, Nat.le_of_ble_eq_true rfl⟩) ⟨fun a U g mk q => by obtain ⟨q0, q1, qP, qK, qD⟩ := q; exact ⟨q0, q1, qP, va_K.moved (u := U) (U := U.calling g mk a) (Vm.Alike.refl U.vm) qK, qD⟩, va_recv hKc hPc (ci := 8) (q0 := 0) rfl rfl, fun U hU hW => ⟨rfl, by rw [hU], by rw [hU]; exact hPc, va_K.moved hW.alike hKc, hDc.weaken (fun _ _ _ _ => trivial)⟩⟩ rfl rfl hl.1 rfl (lv_room (Nat.le_of_ble_eq_true rfl)) dX9_write_15 ⟨Nat.le_of_ble_eq_true rfl, Nat.le_of_ble_eq_true rfl⟩) hS (fun q _ h => hFc q h) hFc (fun r2 u3 t H1 locs ht hvm hw hB hz1 hk1 hS => ?_)
    obtain ⟨hP1, hK1, hD1⟩ := hB
    rw [ht] at hP1
    have hK1 := va_K.moved hvm.symm hK1
    try dsimp only at hw
    obtain ⟨hP, hD⟩ := va_join (wr := []) (w1 := [(h0, .inr (8, [.int 0, .ref am, .ref ad, .ref ab, .int 0, .int 224, .ref ar, .int 0, .int 0, .int 0, .int 0, .int 0, .int 0, .ref az, .ref ae, .ref ao, .ref an, .ref au, .int 0, .int 0, .int 0, .ref ap, .ref aw, .int 0, .int 0, .int 0, .int 0, .int 0])), (am, .inl (tm, 512, .inl f))]) hP hD [0, 1] [] rfl rfl (by decide) (by decide) hk1 hFc hP1 hD1
    have hK := (hK.sub (tys' := []) [] rfl).app hK1
    generalize H1 = H at hP hS ⊢
    have hP : va_P (dC, dI) vwCl [(h0, .inr (8, [.int 0, .ref am, .ref ad, .ref ab, .int 0, .int 224, .ref ar, .int 0, .int 0, .int 0, .int 0, .int 0, .int 0, .ref az, .ref ae, .ref ao, .ref an, .ref au, .int 0, .int 0, .int 0, .ref ap, .ref aw, .int 0, .int 0, .int 0, .int 0, .int 0])), (am, .inl (tm, 512, .inl f))] H := hP
    have hD : va_D A [(h0, .inr (8, [.int 0, .ref am, .ref ad, .ref ab, .int 0, .int 224, .ref ar, .int 0, .int 0, .int 0, .int 0, .int 0, .int 0, .ref az, .ref ae, .ref ao, .ref an, .ref au, .int 0, .int 0, .int 0, .ref ap, .ref aw, .int 0, .int 0, .int 0, .int 0, .int 0])), (am, .inl (tm, 512, .inl f))] := hD
    have hK : va_K (dC, dI) vwCl [(tm, .int)] s := hK
    refine W.widen (k := 0) (n := 0) (Nat.le_of_ble_eq_true rfl) (Nat.le_of_ble_eq_true rfl) ?_
    refine lv_if_ge (tgt := 29) hx hb dX9_write_18 (by decide) (fun c4 => ?_) (fun c4 => ?_)
    · have c4 := fz_le.mp c4
      have kk0 : (0 : Int32).toInt = 0 := by decide
      refine lv_iload_n hx hb dX9_write_29 rfl (lv_at hl 0 rfl) ?_
      refine lv_if_ge (tgt := 45) hx hb dX9_write_30 (by decide) (fun c5 => ?_) (fun c5 => ?_)
      · have c5 := fz_le.mp c5
        have kk0 : (0 : Int32).toInt = 0 := by decide
        exact False.elim (by omega)
      · have c5 := fz_nle.mp c5
        have kk0 : (0 : Int32).toInt = 0 := by decide
        refine lv_aload_n hx hb dX9_write_33 rfl (lv_at hl 1 rfl) ?_
        refine va_get (D := (dC, dI)) (ci := 8) (v := .ref am) (C := RX9) (T := TX9) (N := 28) hx hb hts (by decide +kernel) hown hK hP 0 rfl rfl 1 (by decide) (hts (.fieldLink RX9 7 "UnibusMachineModel" "memory" "[I") (by decide +kernel)) (fun _ h9 => h9) rfl dX9_write_34 ?_
        refine lv_iload_n hx hb dX9_write_37 rfl (lv_at hl 2 rfl) ?_
        refine lv_iconst (v := 2) hx hb dX9_write_38 (by decide) ?_
        refine lv_idiv hx hb dX9_write_39 (by decide) ?_
        have f2 := fz_div2 a0 (by omega)
        refine lv_iload_n hx hb dX9_write_40 rfl (lv_at hl 3 rfl) ?_
        refine va_iast (D := (dC, dI)) hx hb hK hP hD hS 1 0 rfl rfl (vp_in_iff.mpr (by constructor <;> omega)) dX9_write_41 (fun H locs hP hD hS => ?_)
        have hP : va_P (dC, dI) vwCl [(h0, .inr (8, [.int 0, .ref am, .ref ad, .ref ab, .int 0, .int 224, .ref ar, .int 0, .int 0, .int 0, .int 0, .int 0, .int 0, .ref az, .ref ae, .ref ao, .ref an, .ref au, .int 0, .int 0, .int 0, .ref ap, .ref aw, .int 0, .int 0, .int 0, .int 0, .int 0])), (am, .inl (tm, 512, .inl (upd f (a0 / 2 : Int32).toNatClampNeg v0)))] H := hP
        have hD : va_D A [(h0, .inr (8, [.int 0, .ref am, .ref ad, .ref ab, .int 0, .int 224, .ref ar, .int 0, .int 0, .int 0, .int 0, .int 0, .int 0, .ref az, .ref ae, .ref ao, .ref an, .ref au, .int 0, .int 0, .int 0, .ref ap, .ref aw, .int 0, .int 0, .int 0, .int 0, .int 0])), (am, .inl (tm, 512, .inl (upd f (a0 / 2 : Int32).toNatClampNeg v0)))] := hD
        obtain ⟨f6, hf6⟩ : ∃ z : Nat → Int32, z = upd f (a0 / 2 : Int32).toNatClampNeg v0 := ⟨_, rfl⟩
        rw [← hf6] at hP hD
        have hf6_2 : f6 (2 : Int32).toNatClampNeg = 1 := by rw [hf6, pk_un (fz_nc _ 2 (by rw [f2]; first | (show (2 : Int) < _; omega) | (show (3 : Int) < _; omega)) (by decide))]; assumption
        have hf6_3 : f6 (3 : Int32).toNatClampNeg = 224 := by rw [hf6, pk_un (fz_nc _ 3 (by rw [f2]; first | (show (2 : Int) < _; omega) | (show (3 : Int) < _; omega)) (by decide))]; assumption
        have hf6_all : ∀ i : Nat, 0 ≤ (f6 i).toInt := by rw [hf6]; exact fz_all (by assumption) (by first | decide | omega | assumption)
        have hP : va_P (dC, dI) vwCl [(h0, .inr (8, [.int 0, .ref am, .ref ad, .ref ab, .int 0, .int 224, .ref ar, .int 0, .int 0, .int 0, .int 0, .int 0, .int 0, .ref az, .ref ae, .ref ao, .ref an, .ref au, .int 0, .int 0, .int 0, .ref ap, .ref aw, .int 0, .int 0, .int 0, .int 0, .int 0])), (am, .inl (tm, 512, .inl f6))] H := hP
        have hD : va_D A [(h0, .inr (8, [.int 0, .ref am, .ref ad, .ref ab, .int 0, .int 224, .ref ar, .int 0, .int 0, .int 0, .int 0, .int 0, .int 0, .ref az, .ref ae, .ref ao, .ref an, .ref au, .int 0, .int 0, .int 0, .ref ap, .ref aw, .int 0, .int 0, .int 0, .int 0, .int 0])), (am, .inl (tm, 512, .inl f6))] := hD
        refine lv_goto (tgt := 264) hx hb dX9_write_42 (by decide) ?_
        have hx7 : f6 (2 : Int32).toNatClampNeg = 1 := by first | assumption | omega
        have hx8 : f6 (3 : Int32).toNatClampNeg = 224 := by first | assumption | omega
        have hx9 : ∀ i : Nat, 0 ≤ (f6 i).toInt := by first | assumption | omega
        have hP9 := hP.sub (ws' := [(h0, .inr (8, [.int 0, .ref am, .ref ad, .ref ab, .int 0, .int 224, .ref ar, .int 0, .int 0, .int 0, .int 0, .int 0, .int 0, .ref az, .ref ae, .ref ao, .ref an, .ref au, .int 0, .int 0, .int 0, .ref ap, .ref aw, .int 0, .int 0, .int 0, .int 0, .int 0])), (am, .inl (tm, 512, .inl f6))]) [0, 1] rfl
        have hD9 := hD.sub (ws' := [(h0, .inr (8, [.int 0, .ref am, .ref ad, .ref ab, .int 0, .int 224, .ref ar, .int 0, .int 0, .int 0, .int 0, .int 0, .int 0, .ref az, .ref ae, .ref ao, .ref an, .ref au, .int 0, .int 0, .int 0, .ref ap, .ref aw, .int 0, .int 0, .int 0, .int 0, .int 0])), (am, .inl (tm, 512, .inl f6))]) [0, 1] (by decide) rfl
        have hK9 := hK.sub (tys' := [(tm, .int)]) [0] rfl
        exact W.vret hx hb hr (fun t ht hW => ⟨⟨(f6), rfl, ⟨hx7, hx8, hx9⟩, by rw [ht]; exact hP9, va_K.moved hW.alike hK9, hD9⟩, hS.F ht⟩) hS.2.2 dX9_write_264
    · have c4 := fz_nle.mp c4
      have kk0 : (0 : Int32).toInt = 0 := by decide
      exact False.elim (by omega)
  · exact absurd c1 (by decide)
set_option maxHeartbeats 4000000 in
set_option maxRecDepth 100000 in
theorem c_m_setWord (l : Launch) (dC : Nat → ClassId) (dI : Nat → Nat → Nat) (h0 : Nat) (am : Nat) (ad : Nat) (ab : Nat) (ar : Nat) (az : Nat) (ae : Nat) (ao : Nat) (an : Nat) (au : Nat) (ap : Nat) (aw : Nat) (tm : ClassId) (f : Nat → Int32) (a0 : Int32) (v0 : Int32) (sz : Nat) (hF0 : f (2 : Int32).toNatClampNeg = 1) (hF1 : f (3 : Int32).toNatClampNeg = 224) (hF2 : ∀ i : Nat, 0 ≤ (f i).toInt) (hH3 : 160 ≤ a0.toInt) (hH4 : a0.toInt < 1024) (hH5 : a0.toInt % 2 = 0) (hH6 : 0 ≤ v0.toInt) : Met l yX9_setWord wsX9_setWord ({ frames := 2, cells := 0, slots := 0, locals := 45 } : Room) (va_Pc [.ref h0, .int a0, .int 0, .int v0] (fun U => U.heap.size = sz ∧ va_P (dC, dI) vwCl [(h0, .inr (8, [.int 0, .ref am, .ref ad, .ref ab, .int 0, .int 224, .ref ar, .int 0, .int 0, .int 0, .int 0, .int 0, .int 0, .ref az, .ref ae, .ref ao, .ref an, .ref au, .int 0, .int 0, .int 0, .ref ap, .ref aw, .int 0, .int 0, .int 0, .int 0, .int 0])), (am, .inl (tm, 512, .inl f))] U.heap ∧ va_K (dC, dI) vwCl [(tm, .int)] U ∧ va_D (fun _ => True) [(h0, .inr (8, [.int 0, .ref am, .ref ad, .ref ab, .int 0, .int 224, .ref ar, .int 0, .int 0, .int 0, .int 0, .int 0, .int 0, .ref az, .ref ae, .ref ao, .ref an, .ref au, .int 0, .int 0, .int 0, .ref ap, .ref aw, .int 0, .int 0, .int 0, .int 0, .int 0])), (am, .inl (tm, 512, .inl f))])) (va_Qv (fun (u : (Nat → Int32)) => (u (2 : Int32).toNatClampNeg = 1) ∧ (u (3 : Int32).toNatClampNeg = 224) ∧ (∀ i : Nat, 0 ≤ (u i).toInt)) (fun (u : (Nat → Int32)) (t : State) => va_P (dC, dI) vwCl [(h0, .inr (8, [.int 0, .ref am, .ref ad, .ref ab, .int 0, .int 224, .ref ar, .int 0, .int 0, .int 0, .int 0, .int 0, .int 0, .ref az, .ref ae, .ref ao, .ref an, .ref au, .int 0, .int 0, .int 0, .ref ap, .ref aw, .int 0, .int 0, .int 0, .int 0, .int 0])), (am, .inl (tm, 512, .inl u))] t.heap ∧ va_K (dC, dI) vwCl [(tm, .int)] t ∧ va_D (va_A [(h0, .inr (8, [.int 0, .ref am, .ref ad, .ref ab, .int 0, .int 224, .ref ar, .int 0, .int 0, .int 0, .int 0, .int 0, .int 0, .ref az, .ref ae, .ref ao, .ref an, .ref au, .int 0, .int 0, .int 0, .ref ap, .ref aw, .int 0, .int 0, .int 0, .int 0, .int 0])), (am, .inl (tm, 512, .inl f))] sz) [(h0, .inr (8, [.int 0, .ref am, .ref ad, .ref ab, .int 0, .int 224, .ref ar, .int 0, .int 0, .int 0, .int 0, .int 0, .int 0, .ref az, .ref ae, .ref ao, .ref an, .ref au, .int 0, .int 0, .int 0, .ref ap, .ref aw, .int 0, .int 0, .int 0, .int 0, .int 0])), (am, .inl (tm, 512, .inl u))]) (va_A [(h0, .inr (8, [.int 0, .ref am, .ref ad, .ref ab, .int 0, .int 224, .ref ar, .int 0, .int 0, .int 0, .int 0, .int 0, .int 0, .ref az, .ref ae, .ref ao, .ref an, .ref au, .int 0, .int 0, .int 0, .ref ap, .ref aw, .int 0, .int 0, .int 0, .int 0, .int 0])), (am, .inl (tm, 512, .inl f))] sz)) 0 0 (va_A [(h0, .inr (8, [.int 0, .ref am, .ref ad, .ref ab, .int 0, .int 224, .ref ar, .int 0, .int 0, .int 0, .int 0, .int 0, .int 0, .ref az, .ref ae, .ref ao, .ref an, .ref au, .int 0, .int 0, .int 0, .ref ap, .ref aw, .int 0, .int 0, .int 0, .int 0, .int 0])), (am, .inl (tm, 512, .inl f))] sz) := by
  refine Met.ofW (cc := cX9_setWord) (maxL := 4) (ret := none) (by decide) rfl ?_
  intro p e s m args below meth c s₁ B hml hv
  obtain ⟨rfl, hsz, hP, hK, hD0⟩ := hv
  have hx := B.exec
  have hb := B.bytes
  have hr := B.returns
  have hts := atoms_spec (ws := wsX9_setWord) B.pre
  have hown : s.vm.findClass RX9 = some m.cls := findClass_of_methodNamed B.named
  have hlocks := B.notSynchronized
  have hD := hD0.self (sz := sz)
  generalize hAe : va_A [(h0, .inr (8, [.int 0, .ref am, .ref ad, .ref ab, .int 0, .int 224, .ref ar, .int 0, .int 0, .int 0, .int 0, .int 0, .int 0, .ref az, .ref ae, .ref ao, .ref an, .ref au, .int 0, .int 0, .int 0, .ref ap, .ref aw, .int 0, .int 0, .int 0, .int 0, .int 0])), (am, .inl (tm, 512, .inl f))] sz = A at hD ⊢
  have hA : ∀ q : Nat, s.heap.size ≤ q → A q := fun q h => by rw [← hAe]; exact Or.inr (by omega)
  have hS0 : ∀ G : Heap, s.heap = G → va_S A s.heap G [] := fun G h => by subst h; exact va_S.rf
  generalize hHe : s.heap = H at hP ⊢
  have hS := hS0 H hHe
  have hP : va_P (dC, dI) vwCl [(h0, .inr (8, [.int 0, .ref am, .ref ad, .ref ab, .int 0, .int 224, .ref ar, .int 0, .int 0, .int 0, .int 0, .int 0, .int 0, .ref az, .ref ae, .ref ao, .ref an, .ref au, .int 0, .int 0, .int 0, .ref ap, .ref aw, .int 0, .int 0, .int 0, .int 0, .int 0])), (am, .inl (tm, 512, .inl f))] H := hP
  have hD : va_D A [(h0, .inr (8, [.int 0, .ref am, .ref ad, .ref ab, .int 0, .int 224, .ref ar, .int 0, .int 0, .int 0, .int 0, .int 0, .int 0, .ref az, .ref ae, .ref ao, .ref an, .ref au, .int 0, .int 0, .int 0, .ref ap, .ref aw, .int 0, .int 0, .int 0, .int 0, .int 0])), (am, .inl (tm, 512, .inl f))] := hD
  have hK : va_K (dC, dI) vwCl [(tm, .int)] s := hK
  have hl := lv_entry ([.ref h0, .int a0, .int 0, .int v0]) (n := 4) (Nat.le_of_ble_eq_true rfl)
  rw [lg_entry_eq]
  generalize (lg_sl ([.ref h0, .int a0, .int 0, .int v0]) ++ List.replicate (4 - (lg_sl ([.ref h0, .int a0, .int 0, .int v0])).length) Slot.unset).toArray = ls at hl ⊢
  have hl : lv_has ls 4 [(0, .ref h0), (1, .int a0), (2, .int 0), (3, .int v0)] := hl
  refine lv_aload_n hx hb dX9_setWord_0 rfl (lv_at hl 0 rfl) ?_
  refine va_get (D := (dC, dI)) (ci := 8) (v := .int 0) (C := RX9) (T := TX9) (N := 28) hx hb hts (by decide +kernel) hown hK hP 0 rfl rfl 10 (by decide) (hts (.fieldLink RX9 87 "UnibusMachineModel" "wrong" "I") (by decide +kernel)) (fun _ h9 => h9) rfl dX9_setWord_1 ?_
  refine lv_if_ne (tgt := 19) hx hb dX9_setWord_4 (by decide) (fun c1 => ?_) (fun c1 => ?_)
  · exact absurd c1 (by decide)
  · skip
    refine lv_iload_n hx hb dX9_setWord_7 rfl (lv_at hl 1 rfl) ?_
    refine lv_iconst (v := 2) hx hb dX9_setWord_8 (by decide) ?_
    refine lv_irem hx hb dX9_setWord_9 (by decide) ?_
    refine lv_iconst (v := 1) hx hb dX9_setWord_10 (by decide) ?_
    have f1 := fz_rem2 a0 (by omega)
    refine lv_icmp_ne (tgt := 19) hx hb dX9_setWord_11 (by decide) (fun c2 => ?_) (fun c2 => ?_)
    · have c2 := fz_ne.mp c2
      have kk1 : (1 : Int32).toInt = 1 := by decide
      refine lv_aload_n hx hb dX9_setWord_19 rfl (lv_at hl 0 rfl) ?_
      refine lv_aload_n hx hb dX9_setWord_20 rfl (lv_at hl 0 rfl) ?_
      refine lv_iload_n hx hb dX9_setWord_21 rfl (lv_at hl 1 rfl) ?_
      refine lv_iload_n hx hb dX9_setWord_22 rfl (lv_at hl 2 rfl) ?_
      refine lv_iconst (v := 1) hx hb dX9_setWord_23 (by decide) ?_
      have hPc := hP.sub (ws' := [(h0, .inr (8, [.int 0, .ref am, .ref ad, .ref ab, .int 0, .int 224, .ref ar, .int 0, .int 0, .int 0, .int 0, .int 0, .int 0, .ref az, .ref ae, .ref ao, .ref an, .ref au, .int 0, .int 0, .int 0, .ref ap, .ref aw, .int 0, .int 0, .int 0, .int 0, .int 0]))]) [0] rfl
      have hDc := hD.sub (ws' := [(h0, .inr (8, [.int 0, .ref am, .ref ad, .ref ab, .int 0, .int 224, .ref ar, .int 0, .int 0, .int 0, .int 0, .int 0, .int 0, .ref az, .ref ae, .ref ao, .ref an, .ref au, .int 0, .int 0, .int 0, .ref ap, .ref aw, .int 0, .int 0, .int 0, .int 0, .int 0]))]) [0] (by decide) rfl
      have hKc := hK.sub (tys' := []) [] rfl
      have hFc := va_free (wc := [(h0, .inr (8, [.int 0, .ref am, .ref ad, .ref ab, .int 0, .int 224, .ref ar, .int 0, .int 0, .int 0, .int 0, .int 0, .int 0, .ref az, .ref ae, .ref ao, .ref an, .ref au, .int 0, .int 0, .int 0, .ref ap, .ref aw, .int 0, .int 0, .int 0, .int 0, .int 0]))]) hD hS hA [0] rfl
      refine va_calli (va_runV (As := [.int a0, .int 0, .int 1]) (rest := [.ref h0]) ⟨hx, hb, hml, hown, hts⟩ (c_m_mapped l dC dI h0 am ad ab ar az ae ao an au ap aw a0 1 H.size) (cwV 3 hts gX9_setWord_X9_mapped rfl rfl rfl (by decide +kernel) ⟨Nat.le_of_ble_eq_true rfl, Nat.le_of_ble_eq_true rfl⟩) ⟨fun a U g mk q => by obtain ⟨q0, q1, qP, qK, qD⟩ := q; exact ⟨q0, q1, qP, va_K.moved (u := U) (U := U.calling g mk a) (Vm.Alike.refl U.vm) qK, qD⟩, va_recv hKc hPc (ci := 8) (q0 := 0) rfl rfl, fun U hU hW => ⟨rfl, by rw [hU], by rw [hU]; exact hPc, va_K.moved hW.alike hKc, hDc.weaken (fun _ _ _ _ => trivial)⟩⟩ rfl rfl hl.1 rfl (lv_room (Nat.le_of_ble_eq_true rfl)) dX9_setWord_24 ⟨Nat.le_of_ble_eq_true rfl, Nat.le_of_ble_eq_true rfl⟩) hS (fun q _ h => hFc q h) hFc (fun r3 u4 t H1 locs ht hvm hw hB hz1 hk1 hS => ?_)
      obtain ⟨hP1, hK1, hD1⟩ := hB
      rw [ht] at hP1
      have hK1 := va_K.moved hvm.symm hK1
      try dsimp only at hw
      obtain ⟨hP, hD⟩ := va_join (wr := [(am, .inl (tm, 512, .inl f))]) (w1 := [(h0, .inr (8, [.int 0, .ref am, .ref ad, .ref ab, .int 0, .int 224, .ref ar, .int 0, .int 0, .int 0, .int 0, .int 0, .int 0, .ref az, .ref ae, .ref ao, .ref an, .ref au, .int 0, .int 0, .int 0, .ref ap, .ref aw, .int 0, .int 0, .int 0, .int 0, .int 0]))]) hP hD [0] [1] rfl rfl (by decide) (by decide) hk1 hFc hP1 hD1
      have hK := (hK.sub (tys' := [(tm, .int)]) [0] rfl).app hK1
      generalize H1 = H at hP hS ⊢
      have hP : va_P (dC, dI) vwCl [(am, .inl (tm, 512, .inl f)), (h0, .inr (8, [.int 0, .ref am, .ref ad, .ref ab, .int 0, .int 224, .ref ar, .int 0, .int 0, .int 0, .int 0, .int 0, .int 0, .ref az, .ref ae, .ref ao, .ref an, .ref au, .int 0, .int 0, .int 0, .ref ap, .ref aw, .int 0, .int 0, .int 0, .int 0, .int 0]))] H := hP
      have hD : va_D A [(am, .inl (tm, 512, .inl f)), (h0, .inr (8, [.int 0, .ref am, .ref ad, .ref ab, .int 0, .int 224, .ref ar, .int 0, .int 0, .int 0, .int 0, .int 0, .int 0, .ref az, .ref ae, .ref ao, .ref an, .ref au, .int 0, .int 0, .int 0, .ref ap, .ref aw, .int 0, .int 0, .int 0, .int 0, .int 0]))] := hD
      have hK : va_K (dC, dI) vwCl [(tm, .int)] s := hK
      refine W.widen (k := 0) (n := 0) (Nat.le_of_ble_eq_true rfl) (Nat.le_of_ble_eq_true rfl) ?_
      obtain rfl := hw
      refine lv_iload_n hx hb dX9_setWord_27 rfl (lv_at hl 3 rfl) ?_
      have hPc := hP.sub (ws' := [(h0, .inr (8, [.int 0, .ref am, .ref ad, .ref ab, .int 0, .int 224, .ref ar, .int 0, .int 0, .int 0, .int 0, .int 0, .int 0, .ref az, .ref ae, .ref ao, .ref an, .ref au, .int 0, .int 0, .int 0, .ref ap, .ref aw, .int 0, .int 0, .int 0, .int 0, .int 0])), (am, .inl (tm, 512, .inl f))]) [1, 0] rfl
      have hDc := hD.sub (ws' := [(h0, .inr (8, [.int 0, .ref am, .ref ad, .ref ab, .int 0, .int 224, .ref ar, .int 0, .int 0, .int 0, .int 0, .int 0, .int 0, .ref az, .ref ae, .ref ao, .ref an, .ref au, .int 0, .int 0, .int 0, .ref ap, .ref aw, .int 0, .int 0, .int 0, .int 0, .int 0])), (am, .inl (tm, 512, .inl f))]) [1, 0] (by decide) rfl
      have hKc := hK.sub (tys' := [(tm, .int)]) [0] rfl
      have hFc := va_free (wc := [(h0, .inr (8, [.int 0, .ref am, .ref ad, .ref ab, .int 0, .int 224, .ref ar, .int 0, .int 0, .int 0, .int 0, .int 0, .int 0, .ref az, .ref ae, .ref ao, .ref an, .ref au, .int 0, .int 0, .int 0, .ref ap, .ref aw, .int 0, .int 0, .int 0, .int 0, .int 0])), (am, .inl (tm, 512, .inl f))]) hD hS hA [1, 0] rfl
      refine va_callv (va_runV (As := [.int a0, .int v0]) (rest := []) ⟨hx, hb, hml, hown, hts⟩ (c_m_writeS l dC dI h0 am ad ab ar az ae ao an au ap aw tm f a0 v0 H.size (by first | assumption | omega | decide) (by first | assumption | omega | decide) (by first | assumption | omega | decide) (by first | assumption | omega | decide) (by first | assumption | omega | decide) (by first | assumption | omega | decide)) (cwV 2 hts gX9_setWord_X9_write rfl rfl rfl (by decide +kernel) ⟨Nat.le_of_ble_eq_true rfl, Nat.le_of_ble_eq_true rfl⟩) ⟨fun a U g mk q => by obtain ⟨q0, q1, qP, qK, qD⟩ := q; exact ⟨q0, q1, qP, va_K.moved (u := U) (U := U.calling g mk a) (Vm.Alike.refl U.vm) qK, qD⟩, va_recv hKc hPc (ci := 8) (q0 := 0) rfl rfl, fun U hU hW => ⟨rfl, by rw [hU], by rw [hU]; exact hPc, va_K.moved hW.alike hKc, hDc.weaken (fun _ _ _ _ => trivial)⟩⟩ rfl rfl hl.1 rfl (lv_room (Nat.le_of_ble_eq_true rfl)) dX9_setWord_28 ⟨Nat.le_of_ble_eq_true rfl, Nat.le_of_ble_eq_true rfl⟩) hS (fun q _ h => hFc q h) hFc (fun u6 t H1 locs ht hvm hw hB hz1 hk1 hS => ?_)
      obtain ⟨hP1, hK1, hD1⟩ := hB
      rw [ht] at hP1
      have hK1 := va_K.moved hvm.symm hK1
      try dsimp only at hw
      obtain ⟨hP, hD⟩ := va_join (wr := []) (w1 := [(h0, .inr (8, [.int 0, .ref am, .ref ad, .ref ab, .int 0, .int 224, .ref ar, .int 0, .int 0, .int 0, .int 0, .int 0, .int 0, .ref az, .ref ae, .ref ao, .ref an, .ref au, .int 0, .int 0, .int 0, .ref ap, .ref aw, .int 0, .int 0, .int 0, .int 0, .int 0])), (am, .inl (tm, 512, .inl u6))]) hP hD [1, 0] [] rfl rfl (by decide) (by decide) hk1 hFc hP1 hD1
      have hK := (hK.sub (tys' := []) [] rfl).app hK1
      generalize H1 = H at hP hS ⊢
      have hP : va_P (dC, dI) vwCl [(h0, .inr (8, [.int 0, .ref am, .ref ad, .ref ab, .int 0, .int 224, .ref ar, .int 0, .int 0, .int 0, .int 0, .int 0, .int 0, .ref az, .ref ae, .ref ao, .ref an, .ref au, .int 0, .int 0, .int 0, .ref ap, .ref aw, .int 0, .int 0, .int 0, .int 0, .int 0])), (am, .inl (tm, 512, .inl u6))] H := hP
      have hD : va_D A [(h0, .inr (8, [.int 0, .ref am, .ref ad, .ref ab, .int 0, .int 224, .ref ar, .int 0, .int 0, .int 0, .int 0, .int 0, .int 0, .ref az, .ref ae, .ref ao, .ref an, .ref au, .int 0, .int 0, .int 0, .ref ap, .ref aw, .int 0, .int 0, .int 0, .int 0, .int 0])), (am, .inl (tm, 512, .inl u6))] := hD
      have hK : va_K (dC, dI) vwCl [(tm, .int)] s := hK
      refine W.widen (k := 0) (n := 0) (Nat.le_of_ble_eq_true rfl) (Nat.le_of_ble_eq_true rfl) ?_
      obtain ⟨_, _, _⟩ := hw
      have hx7 : u6 (2 : Int32).toNatClampNeg = 1 := by first | assumption | omega
      have hx8 : u6 (3 : Int32).toNatClampNeg = 224 := by first | assumption | omega
      have hx9 : ∀ i : Nat, 0 ≤ (u6 i).toInt := by first | assumption | omega
      have hP9 := hP.sub (ws' := [(h0, .inr (8, [.int 0, .ref am, .ref ad, .ref ab, .int 0, .int 224, .ref ar, .int 0, .int 0, .int 0, .int 0, .int 0, .int 0, .ref az, .ref ae, .ref ao, .ref an, .ref au, .int 0, .int 0, .int 0, .ref ap, .ref aw, .int 0, .int 0, .int 0, .int 0, .int 0])), (am, .inl (tm, 512, .inl u6))]) [0, 1] rfl
      have hD9 := hD.sub (ws' := [(h0, .inr (8, [.int 0, .ref am, .ref ad, .ref ab, .int 0, .int 224, .ref ar, .int 0, .int 0, .int 0, .int 0, .int 0, .int 0, .ref az, .ref ae, .ref ao, .ref an, .ref au, .int 0, .int 0, .int 0, .ref ap, .ref aw, .int 0, .int 0, .int 0, .int 0, .int 0])), (am, .inl (tm, 512, .inl u6))]) [0, 1] (by decide) rfl
      have hK9 := hK.sub (tys' := [(tm, .int)]) [0] rfl
      exact W.vret hx hb hr (fun t ht hW => ⟨⟨(u6), rfl, ⟨hx7, hx8, hx9⟩, by rw [ht]; exact hP9, va_K.moved hW.alike hK9, hD9⟩, hS.F ht⟩) hS.2.2 dX9_setWord_31
    · have c2 := fz_eq.mp c2
      have kk1 : (1 : Int32).toInt = 1 := by decide
      exact False.elim (by omega)
set_option maxHeartbeats 4000000 in
set_option maxRecDepth 100000 in
theorem c_m_push (l : Launch) (dC : Nat → ClassId) (dI : Nat → Nat → Nat) (h0 : Nat) (am : Nat) (ad : Nat) (ab : Nat) (ar : Nat) (az : Nat) (ae : Nat) (ao : Nat) (an : Nat) (au : Nat) (ap : Nat) (aw : Nat) (tm : ClassId) (tr : ClassId) (f : Nat → Int32) (g : Nat → Int32) (z : Int) (v0 : Int32) (sz : Nat) (hF0 : f (2 : Int32).toNatClampNeg = 1) (hF1 : f (3 : Int32).toNatClampNeg = 224) (hF2 : ∀ i : Nat, 0 ≤ (f i).toInt) (hF3 : g (7 : Int32).toNatClampNeg = 1) (hF4 : (g (6 : Int32).toNatClampNeg).toInt = z) (hH5 : 166 ≤ z) (hH6 : z ≤ 1024) (hH7 : z % 2 = 0) (hH8 : 0 ≤ v0.toInt) : Met l yX9_push wsX9_push ({ frames := 3, cells := 0, slots := 0, locals := 68 } : Room) (va_Pc [.ref h0, .int v0] (fun U => U.heap.size = sz ∧ va_P (dC, dI) vwCl [(h0, .inr (8, [.int 0, .ref am, .ref ad, .ref ab, .int 0, .int 224, .ref ar, .int 0, .int 0, .int 0, .int 0, .int 0, .int 0, .ref az, .ref ae, .ref ao, .ref an, .ref au, .int 0, .int 0, .int 0, .ref ap, .ref aw, .int 0, .int 0, .int 0, .int 0, .int 0])), (am, .inl (tm, 512, .inl f)), (ar, .inl (tr, 8, .inl g))] U.heap ∧ va_K (dC, dI) vwCl [(tm, .int), (tr, .int)] U ∧ va_D (fun _ => True) [(h0, .inr (8, [.int 0, .ref am, .ref ad, .ref ab, .int 0, .int 224, .ref ar, .int 0, .int 0, .int 0, .int 0, .int 0, .int 0, .ref az, .ref ae, .ref ao, .ref an, .ref au, .int 0, .int 0, .int 0, .ref ap, .ref aw, .int 0, .int 0, .int 0, .int 0, .int 0])), (am, .inl (tm, 512, .inl f)), (ar, .inl (tr, 8, .inl g))])) (va_Qv (fun (u : (Nat → Int32) × (Nat → Int32)) => (u.1 (2 : Int32).toNatClampNeg = 1) ∧ (u.1 (3 : Int32).toNatClampNeg = 224) ∧ (∀ i : Nat, 0 ≤ (u.1 i).toInt) ∧ (u.2 (7 : Int32).toNatClampNeg = 1) ∧ ((u.2 (6 : Int32).toNatClampNeg).toInt = z - 2)) (fun (u : (Nat → Int32) × (Nat → Int32)) (t : State) => va_P (dC, dI) vwCl [(h0, .inr (8, [.int 0, .ref am, .ref ad, .ref ab, .int 0, .int 224, .ref ar, .int 0, .int 0, .int 0, .int 0, .int 0, .int 0, .ref az, .ref ae, .ref ao, .ref an, .ref au, .int 0, .int 0, .int 0, .ref ap, .ref aw, .int 0, .int 0, .int 0, .int 0, .int 0])), (am, .inl (tm, 512, .inl u.1)), (ar, .inl (tr, 8, .inl u.2))] t.heap ∧ va_K (dC, dI) vwCl [(tm, .int), (tr, .int)] t ∧ va_D (va_A [(h0, .inr (8, [.int 0, .ref am, .ref ad, .ref ab, .int 0, .int 224, .ref ar, .int 0, .int 0, .int 0, .int 0, .int 0, .int 0, .ref az, .ref ae, .ref ao, .ref an, .ref au, .int 0, .int 0, .int 0, .ref ap, .ref aw, .int 0, .int 0, .int 0, .int 0, .int 0])), (am, .inl (tm, 512, .inl f)), (ar, .inl (tr, 8, .inl g))] sz) [(h0, .inr (8, [.int 0, .ref am, .ref ad, .ref ab, .int 0, .int 224, .ref ar, .int 0, .int 0, .int 0, .int 0, .int 0, .int 0, .ref az, .ref ae, .ref ao, .ref an, .ref au, .int 0, .int 0, .int 0, .ref ap, .ref aw, .int 0, .int 0, .int 0, .int 0, .int 0])), (am, .inl (tm, 512, .inl u.1)), (ar, .inl (tr, 8, .inl u.2))]) (va_A [(h0, .inr (8, [.int 0, .ref am, .ref ad, .ref ab, .int 0, .int 224, .ref ar, .int 0, .int 0, .int 0, .int 0, .int 0, .int 0, .ref az, .ref ae, .ref ao, .ref an, .ref au, .int 0, .int 0, .int 0, .ref ap, .ref aw, .int 0, .int 0, .int 0, .int 0, .int 0])), (am, .inl (tm, 512, .inl f)), (ar, .inl (tr, 8, .inl g))] sz)) 0 0 (va_A [(h0, .inr (8, [.int 0, .ref am, .ref ad, .ref ab, .int 0, .int 224, .ref ar, .int 0, .int 0, .int 0, .int 0, .int 0, .int 0, .ref az, .ref ae, .ref ao, .ref an, .ref au, .int 0, .int 0, .int 0, .ref ap, .ref aw, .int 0, .int 0, .int 0, .int 0, .int 0])), (am, .inl (tm, 512, .inl f)), (ar, .inl (tr, 8, .inl g))] sz) := by
  refine Met.ofW (cc := cX9_push) (maxL := 2) (ret := none) (by decide) rfl ?_
  intro p e s m args below meth c s₁ B hml hv
  obtain ⟨rfl, hsz, hP, hK, hD0⟩ := hv
  have hx := B.exec
  have hb := B.bytes
  have hr := B.returns
  have hts := atoms_spec (ws := wsX9_push) B.pre
  have hown : s.vm.findClass RX9 = some m.cls := findClass_of_methodNamed B.named
  have hlocks := B.notSynchronized
  have hD := hD0.self (sz := sz)
  generalize hAe : va_A [(h0, .inr (8, [.int 0, .ref am, .ref ad, .ref ab, .int 0, .int 224, .ref ar, .int 0, .int 0, .int 0, .int 0, .int 0, .int 0, .ref az, .ref ae, .ref ao, .ref an, .ref au, .int 0, .int 0, .int 0, .ref ap, .ref aw, .int 0, .int 0, .int 0, .int 0, .int 0])), (am, .inl (tm, 512, .inl f)), (ar, .inl (tr, 8, .inl g))] sz = A at hD ⊢
  have hA : ∀ q : Nat, s.heap.size ≤ q → A q := fun q h => by rw [← hAe]; exact Or.inr (by omega)
  have hS0 : ∀ G : Heap, s.heap = G → va_S A s.heap G [] := fun G h => by subst h; exact va_S.rf
  generalize hHe : s.heap = H at hP ⊢
  have hS := hS0 H hHe
  have hP : va_P (dC, dI) vwCl [(h0, .inr (8, [.int 0, .ref am, .ref ad, .ref ab, .int 0, .int 224, .ref ar, .int 0, .int 0, .int 0, .int 0, .int 0, .int 0, .ref az, .ref ae, .ref ao, .ref an, .ref au, .int 0, .int 0, .int 0, .ref ap, .ref aw, .int 0, .int 0, .int 0, .int 0, .int 0])), (am, .inl (tm, 512, .inl f)), (ar, .inl (tr, 8, .inl g))] H := hP
  have hD : va_D A [(h0, .inr (8, [.int 0, .ref am, .ref ad, .ref ab, .int 0, .int 224, .ref ar, .int 0, .int 0, .int 0, .int 0, .int 0, .int 0, .ref az, .ref ae, .ref ao, .ref an, .ref au, .int 0, .int 0, .int 0, .ref ap, .ref aw, .int 0, .int 0, .int 0, .int 0, .int 0])), (am, .inl (tm, 512, .inl f)), (ar, .inl (tr, 8, .inl g))] := hD
  have hK : va_K (dC, dI) vwCl [(tm, .int), (tr, .int)] s := hK
  have hl := lv_entry ([.ref h0, .int v0]) (n := 2) (Nat.le_of_ble_eq_true rfl)
  rw [lg_entry_eq]
  generalize (lg_sl ([.ref h0, .int v0]) ++ List.replicate (2 - (lg_sl ([.ref h0, .int v0])).length) Slot.unset).toArray = ls at hl ⊢
  have hl : lv_has ls 2 [(0, .ref h0), (1, .int v0)] := hl
  refine lv_aload_n hx hb dX9_push_0 rfl (lv_at hl 0 rfl) ?_
  refine lv_bipush (v := 6) hx hb dX9_push_1 (by decide) ?_
  refine lv_aload_n hx hb dX9_push_3 rfl (lv_at hl 0 rfl) ?_
  refine va_get (D := (dC, dI)) (ci := 8) (v := .ref ar) (C := RX9) (T := TX9) (N := 28) hx hb hts (by decide +kernel) hown hK hP 0 rfl rfl 6 (by decide) (hts (.fieldLink RX9 19 "UnibusMachineModel" "reg" "[I") (by decide +kernel)) (fun _ h9 => h9) rfl dX9_push_4 ?_
  refine lv_bipush (v := 6) hx hb dX9_push_7 (by decide) ?_
  refine va_iald (D := (dC, dI)) hx hb hK hP 2 1 rfl rfl (vp_in_iff.mpr (by decide)) dX9_push_9 ?_
  refine lv_iconst (v := 2) hx hb dX9_push_10 (by decide) ?_
  refine lv_isub hx hb dX9_push_11 ?_
  have kk2 : (2 : Int32).toInt = 2 := by decide
  have f1 := fz_sub (g (6 : Int32).toNatClampNeg) 2 (by omega) (by omega)
  have hPc := hP.sub (ws' := [(h0, .inr (8, [.int 0, .ref am, .ref ad, .ref ab, .int 0, .int 224, .ref ar, .int 0, .int 0, .int 0, .int 0, .int 0, .int 0, .ref az, .ref ae, .ref ao, .ref an, .ref au, .int 0, .int 0, .int 0, .ref ap, .ref aw, .int 0, .int 0, .int 0, .int 0, .int 0])), (ar, .inl (tr, 8, .inl g))]) [0, 2] rfl
  have hDc := hD.sub (ws' := [(h0, .inr (8, [.int 0, .ref am, .ref ad, .ref ab, .int 0, .int 224, .ref ar, .int 0, .int 0, .int 0, .int 0, .int 0, .int 0, .ref az, .ref ae, .ref ao, .ref an, .ref au, .int 0, .int 0, .int 0, .ref ap, .ref aw, .int 0, .int 0, .int 0, .int 0, .int 0])), (ar, .inl (tr, 8, .inl g))]) [0, 2] (by decide) rfl
  have hKc := hK.sub (tys' := [(tr, .int)]) [1] rfl
  have hFc := va_free (wc := [(h0, .inr (8, [.int 0, .ref am, .ref ad, .ref ab, .int 0, .int 224, .ref ar, .int 0, .int 0, .int 0, .int 0, .int 0, .int 0, .ref az, .ref ae, .ref ao, .ref an, .ref au, .int 0, .int 0, .int 0, .ref ap, .ref aw, .int 0, .int 0, .int 0, .int 0, .int 0])), (ar, .inl (tr, 8, .inl g))]) hD hS hA [0, 2] rfl
  refine va_callv (va_runV (As := [.int 6, .int ((g (6 : Int32).toNatClampNeg) - 2)]) (rest := []) ⟨hx, hb, hml, hown, hts⟩ (c_m_put6 l dC dI h0 am ad ab ar az ae ao an au ap aw tr g z ((g (6 : Int32).toNatClampNeg) - 2) H.size (by first | assumption | omega | decide) (by first | assumption | omega | decide) (by first | assumption | omega | decide) (by first | assumption | omega | decide) (by first | assumption | omega | decide) (by first | assumption | omega | decide)) (cwV 2 hts gX9_push_X9_put rfl rfl rfl (by decide +kernel) ⟨Nat.le_of_ble_eq_true rfl, Nat.le_of_ble_eq_true rfl⟩) ⟨fun a U g mk q => by obtain ⟨q0, q1, qP, qK, qD⟩ := q; exact ⟨q0, q1, qP, va_K.moved (u := U) (U := U.calling g mk a) (Vm.Alike.refl U.vm) qK, qD⟩, va_recv hKc hPc (ci := 8) (q0 := 0) rfl rfl, fun U hU hW => ⟨rfl, by rw [hU], by rw [hU]; exact hPc, va_K.moved hW.alike hKc, hDc.weaken (fun _ _ _ _ => trivial)⟩⟩ rfl rfl hl.1 rfl (lv_room (Nat.le_of_ble_eq_true rfl)) dX9_push_12 ⟨Nat.le_of_ble_eq_true rfl, Nat.le_of_ble_eq_true rfl⟩) hS (fun q _ h => hFc q h) hFc (fun u2 t H1 locs ht hvm hw hB hz1 hk1 hS => ?_)
  obtain ⟨hP1, hK1, hD1⟩ := hB
  rw [ht] at hP1
  have hK1 := va_K.moved hvm.symm hK1
  try dsimp only at hw
  obtain ⟨hP, hD⟩ := va_join (wr := [(am, .inl (tm, 512, .inl f))]) (w1 := [(h0, .inr (8, [.int 0, .ref am, .ref ad, .ref ab, .int 0, .int 224, .ref ar, .int 0, .int 0, .int 0, .int 0, .int 0, .int 0, .ref az, .ref ae, .ref ao, .ref an, .ref au, .int 0, .int 0, .int 0, .ref ap, .ref aw, .int 0, .int 0, .int 0, .int 0, .int 0])), (ar, .inl (tr, 8, .inl u2))]) hP hD [0, 2] [1] rfl rfl (by decide) (by decide) hk1 hFc hP1 hD1
  have hK := (hK.sub (tys' := [(tm, .int)]) [0] rfl).app hK1
  generalize H1 = H at hP hS ⊢
  have hP : va_P (dC, dI) vwCl [(am, .inl (tm, 512, .inl f)), (h0, .inr (8, [.int 0, .ref am, .ref ad, .ref ab, .int 0, .int 224, .ref ar, .int 0, .int 0, .int 0, .int 0, .int 0, .int 0, .ref az, .ref ae, .ref ao, .ref an, .ref au, .int 0, .int 0, .int 0, .ref ap, .ref aw, .int 0, .int 0, .int 0, .int 0, .int 0])), (ar, .inl (tr, 8, .inl u2))] H := hP
  have hD : va_D A [(am, .inl (tm, 512, .inl f)), (h0, .inr (8, [.int 0, .ref am, .ref ad, .ref ab, .int 0, .int 224, .ref ar, .int 0, .int 0, .int 0, .int 0, .int 0, .int 0, .ref az, .ref ae, .ref ao, .ref an, .ref au, .int 0, .int 0, .int 0, .ref ap, .ref aw, .int 0, .int 0, .int 0, .int 0, .int 0])), (ar, .inl (tr, 8, .inl u2))] := hD
  have hK : va_K (dC, dI) vwCl [(tm, .int), (tr, .int)] s := hK
  refine W.widen (k := 0) (n := 0) (Nat.le_of_ble_eq_true rfl) (Nat.le_of_ble_eq_true rfl) ?_
  obtain ⟨_, _⟩ := hw
  refine lv_aload_n hx hb dX9_push_15 rfl (lv_at hl 0 rfl) ?_
  refine lv_aload_n hx hb dX9_push_16 rfl (lv_at hl 0 rfl) ?_
  refine va_get (D := (dC, dI)) (ci := 8) (v := .ref ar) (C := RX9) (T := TX9) (N := 28) hx hb hts (by decide +kernel) hown hK hP 1 rfl rfl 6 (by decide) (hts (.fieldLink RX9 19 "UnibusMachineModel" "reg" "[I") (by decide +kernel)) (fun _ h9 => h9) rfl dX9_push_17 ?_
  refine lv_bipush (v := 6) hx hb dX9_push_20 (by decide) ?_
  refine va_iald (D := (dC, dI)) hx hb hK hP 2 1 rfl rfl (vp_in_iff.mpr (by decide)) dX9_push_22 ?_
  refine lv_aload_n hx hb dX9_push_23 rfl (lv_at hl 0 rfl) ?_
  refine va_get (D := (dC, dI)) (ci := 8) (v := .int 0) (C := RX9) (T := TX9) (N := 28) hx hb hts (by decide +kernel) hown hK hP 1 rfl rfl 8 (by decide) (hts (.fieldLink RX9 116 "UnibusMachineModel" "mode" "I") (by decide +kernel)) (fun _ h9 => h9) rfl dX9_push_24 ?_
  refine lv_iload_n hx hb dX9_push_27 rfl (lv_at hl 1 rfl) ?_
  have hPc := hP.sub (ws' := [(h0, .inr (8, [.int 0, .ref am, .ref ad, .ref ab, .int 0, .int 224, .ref ar, .int 0, .int 0, .int 0, .int 0, .int 0, .int 0, .ref az, .ref ae, .ref ao, .ref an, .ref au, .int 0, .int 0, .int 0, .ref ap, .ref aw, .int 0, .int 0, .int 0, .int 0, .int 0])), (am, .inl (tm, 512, .inl f))]) [1, 0] rfl
  have hDc := hD.sub (ws' := [(h0, .inr (8, [.int 0, .ref am, .ref ad, .ref ab, .int 0, .int 224, .ref ar, .int 0, .int 0, .int 0, .int 0, .int 0, .int 0, .ref az, .ref ae, .ref ao, .ref an, .ref au, .int 0, .int 0, .int 0, .ref ap, .ref aw, .int 0, .int 0, .int 0, .int 0, .int 0])), (am, .inl (tm, 512, .inl f))]) [1, 0] (by decide) rfl
  have hKc := hK.sub (tys' := [(tm, .int)]) [0] rfl
  have hFc := va_free (wc := [(h0, .inr (8, [.int 0, .ref am, .ref ad, .ref ab, .int 0, .int 224, .ref ar, .int 0, .int 0, .int 0, .int 0, .int 0, .int 0, .ref az, .ref ae, .ref ao, .ref an, .ref au, .int 0, .int 0, .int 0, .ref ap, .ref aw, .int 0, .int 0, .int 0, .int 0, .int 0])), (am, .inl (tm, 512, .inl f))]) hD hS hA [1, 0] rfl
  refine va_callv (va_runV (As := [.int (u2 (6 : Int32).toNatClampNeg), .int 0, .int v0]) (rest := []) ⟨hx, hb, hml, hown, hts⟩ (c_m_setWord l dC dI h0 am ad ab ar az ae ao an au ap aw tm f (u2 (6 : Int32).toNatClampNeg) v0 H.size (by first | assumption | omega | decide) (by first | assumption | omega | decide) (by first | assumption | omega | decide) (by first | assumption | omega | decide) (by first | assumption | omega | decide) (by first | assumption | omega | decide) (by first | assumption | omega | decide)) (cwV 3 hts gX9_push_X9_setWord rfl rfl rfl (by decide +kernel) ⟨Nat.le_of_ble_eq_true rfl, Nat.le_of_ble_eq_true rfl⟩) ⟨fun a U g mk q => by obtain ⟨q0, q1, qP, qK, qD⟩ := q; exact ⟨q0, q1, qP, va_K.moved (u := U) (U := U.calling g mk a) (Vm.Alike.refl U.vm) qK, qD⟩, va_recv hKc hPc (ci := 8) (q0 := 0) rfl rfl, fun U hU hW => ⟨rfl, by rw [hU], by rw [hU]; exact hPc, va_K.moved hW.alike hKc, hDc.weaken (fun _ _ _ _ => trivial)⟩⟩ rfl rfl hl.1 rfl (lv_room (Nat.le_of_ble_eq_true rfl)) dX9_push_28 ⟨Nat.le_of_ble_eq_true rfl, Nat.le_of_ble_eq_true rfl⟩) hS (fun q _ h => hFc q h) hFc (fun u4 t H1 locs ht hvm hw hB hz1 hk1 hS => ?_)
  obtain ⟨hP1, hK1, hD1⟩ := hB
  rw [ht] at hP1
  have hK1 := va_K.moved hvm.symm hK1
  try dsimp only at hw
  obtain ⟨hP, hD⟩ := va_join (wr := [(ar, .inl (tr, 8, .inl u2))]) (w1 := [(h0, .inr (8, [.int 0, .ref am, .ref ad, .ref ab, .int 0, .int 224, .ref ar, .int 0, .int 0, .int 0, .int 0, .int 0, .int 0, .ref az, .ref ae, .ref ao, .ref an, .ref au, .int 0, .int 0, .int 0, .ref ap, .ref aw, .int 0, .int 0, .int 0, .int 0, .int 0])), (am, .inl (tm, 512, .inl u4))]) hP hD [1, 0] [2] rfl rfl (by decide) (by decide) hk1 hFc hP1 hD1
  have hK := (hK.sub (tys' := [(tr, .int)]) [1] rfl).app hK1
  generalize H1 = H at hP hS ⊢
  have hP : va_P (dC, dI) vwCl [(ar, .inl (tr, 8, .inl u2)), (h0, .inr (8, [.int 0, .ref am, .ref ad, .ref ab, .int 0, .int 224, .ref ar, .int 0, .int 0, .int 0, .int 0, .int 0, .int 0, .ref az, .ref ae, .ref ao, .ref an, .ref au, .int 0, .int 0, .int 0, .ref ap, .ref aw, .int 0, .int 0, .int 0, .int 0, .int 0])), (am, .inl (tm, 512, .inl u4))] H := hP
  have hD : va_D A [(ar, .inl (tr, 8, .inl u2)), (h0, .inr (8, [.int 0, .ref am, .ref ad, .ref ab, .int 0, .int 224, .ref ar, .int 0, .int 0, .int 0, .int 0, .int 0, .int 0, .ref az, .ref ae, .ref ao, .ref an, .ref au, .int 0, .int 0, .int 0, .ref ap, .ref aw, .int 0, .int 0, .int 0, .int 0, .int 0])), (am, .inl (tm, 512, .inl u4))] := hD
  have hK : va_K (dC, dI) vwCl [(tr, .int), (tm, .int)] s := hK
  refine W.widen (k := 0) (n := 0) (Nat.le_of_ble_eq_true rfl) (Nat.le_of_ble_eq_true rfl) ?_
  obtain ⟨_, _, _⟩ := hw
  have hx5 : u4 (2 : Int32).toNatClampNeg = 1 := by first | assumption | omega
  have hx6 : u4 (3 : Int32).toNatClampNeg = 224 := by first | assumption | omega
  have hx7 : ∀ i : Nat, 0 ≤ (u4 i).toInt := by first | assumption | omega
  have hx8 : u2 (7 : Int32).toNatClampNeg = 1 := by first | assumption | omega
  have hx9 : (u2 (6 : Int32).toNatClampNeg).toInt = z - 2 := by first | assumption | omega
  have hP9 := hP.sub (ws' := [(h0, .inr (8, [.int 0, .ref am, .ref ad, .ref ab, .int 0, .int 224, .ref ar, .int 0, .int 0, .int 0, .int 0, .int 0, .int 0, .ref az, .ref ae, .ref ao, .ref an, .ref au, .int 0, .int 0, .int 0, .ref ap, .ref aw, .int 0, .int 0, .int 0, .int 0, .int 0])), (am, .inl (tm, 512, .inl u4)), (ar, .inl (tr, 8, .inl u2))]) [1, 2, 0] rfl
  have hD9 := hD.sub (ws' := [(h0, .inr (8, [.int 0, .ref am, .ref ad, .ref ab, .int 0, .int 224, .ref ar, .int 0, .int 0, .int 0, .int 0, .int 0, .int 0, .ref az, .ref ae, .ref ao, .ref an, .ref au, .int 0, .int 0, .int 0, .ref ap, .ref aw, .int 0, .int 0, .int 0, .int 0, .int 0])), (am, .inl (tm, 512, .inl u4)), (ar, .inl (tr, 8, .inl u2))]) [1, 2, 0] (by decide) rfl
  have hK9 := hK.sub (tys' := [(tm, .int), (tr, .int)]) [1, 0] rfl
  exact W.vret hx hb hr (fun t ht hW => ⟨⟨(u4, u2), rfl, ⟨hx5, hx6, hx7, hx8, hx9⟩, by rw [ht]; exact hP9, va_K.moved hW.alike hK9, hD9⟩, hS.F ht⟩) hS.2.2 dX9_push_31
set_option maxHeartbeats 4000000 in
set_option maxRecDepth 100000 in
theorem c_m_step (l : Launch) (dC : Nat → ClassId) (dI : Nat → Nat → Nat) (h0 : Nat) (am : Nat) (ad : Nat) (ab : Nat) (ar : Nat) (az : Nat) (ae : Nat) (ao : Nat) (an : Nat) (au : Nat) (ap : Nat) (aw : Nat) (tr : ClassId) (g : Nat → Int32) (sz : Nat) (hF0 : g (7 : Int32).toNatClampNeg = 1) : Met l yX9_step wsX9_step ({ frames := 3, cells := 0, slots := 0, locals := 70 } : Room) (va_Pc [.ref h0] (fun U => U.heap.size = sz ∧ va_P (dC, dI) vwCl [(h0, .inr (8, [.int 0, .ref am, .ref ad, .ref ab, .int 0, .int 224, .ref ar, .int 0, .int 0, .int 0, .int 0, .int 0, .int 0, .ref az, .ref ae, .ref ao, .ref an, .ref au, .int 0, .int 0, .int 0, .ref ap, .ref aw, .int 0, .int 0, .int 0, .int 0, .int 0])), (ar, .inl (tr, 8, .inl g))] U.heap ∧ va_K (dC, dI) vwCl [(tr, .int)] U ∧ va_D (fun _ => True) [(h0, .inr (8, [.int 0, .ref am, .ref ad, .ref ab, .int 0, .int 224, .ref ar, .int 0, .int 0, .int 0, .int 0, .int 0, .int 0, .ref az, .ref ae, .ref ao, .ref an, .ref au, .int 0, .int 0, .int 0, .ref ap, .ref aw, .int 0, .int 0, .int 0, .int 0, .int 0])), (ar, .inl (tr, 8, .inl g))])) (va_Qv (fun (u : Unit) => True) (fun (u : Unit) (t : State) => va_P (dC, dI) vwCl [(h0, .inr (8, [.int 0, .ref am, .ref ad, .ref ab, .int 0, .int 224, .ref ar, .int 0, .int 0, .int 0, .int 4, .int 0, .int 0, .ref az, .ref ae, .ref ao, .ref an, .ref au, .int 0, .int 0, .int 0, .ref ap, .ref aw, .int 0, .int 0, .int 0, .int 0, .int 0])), (ar, .inl (tr, 8, .inl g))] t.heap ∧ va_K (dC, dI) vwCl [(tr, .int)] t ∧ va_D (va_A [(h0, .inr (8, [.int 0, .ref am, .ref ad, .ref ab, .int 0, .int 224, .ref ar, .int 0, .int 0, .int 0, .int 0, .int 0, .int 0, .ref az, .ref ae, .ref ao, .ref an, .ref au, .int 0, .int 0, .int 0, .ref ap, .ref aw, .int 0, .int 0, .int 0, .int 0, .int 0])), (ar, .inl (tr, 8, .inl g))] sz) [(h0, .inr (8, [.int 0, .ref am, .ref ad, .ref ab, .int 0, .int 224, .ref ar, .int 0, .int 0, .int 0, .int 4, .int 0, .int 0, .ref az, .ref ae, .ref ao, .ref an, .ref au, .int 0, .int 0, .int 0, .ref ap, .ref aw, .int 0, .int 0, .int 0, .int 0, .int 0])), (ar, .inl (tr, 8, .inl g))]) (va_A [(h0, .inr (8, [.int 0, .ref am, .ref ad, .ref ab, .int 0, .int 224, .ref ar, .int 0, .int 0, .int 0, .int 0, .int 0, .int 0, .ref az, .ref ae, .ref ao, .ref an, .ref au, .int 0, .int 0, .int 0, .ref ap, .ref aw, .int 0, .int 0, .int 0, .int 0, .int 0])), (ar, .inl (tr, 8, .inl g))] sz)) 0 0 (va_A [(h0, .inr (8, [.int 0, .ref am, .ref ad, .ref ab, .int 0, .int 224, .ref ar, .int 0, .int 0, .int 0, .int 0, .int 0, .int 0, .ref az, .ref ae, .ref ao, .ref an, .ref au, .int 0, .int 0, .int 0, .ref ap, .ref aw, .int 0, .int 0, .int 0, .int 0, .int 0])), (ar, .inl (tr, 8, .inl g))] sz) := by
  refine Met.ofW (cc := cX9_step) (maxL := 3) (ret := none) (by decide) rfl ?_
  intro p e s m args below meth c s₁ B hml hv
  obtain ⟨rfl, hsz, hP, hK, hD0⟩ := hv
  have hx := B.exec
  have hb := B.bytes
  have hr := B.returns
  have hts := atoms_spec (ws := wsX9_step) B.pre
  have hown : s.vm.findClass RX9 = some m.cls := findClass_of_methodNamed B.named
  have hlocks := B.notSynchronized
  have hD := hD0.self (sz := sz)
  generalize hAe : va_A [(h0, .inr (8, [.int 0, .ref am, .ref ad, .ref ab, .int 0, .int 224, .ref ar, .int 0, .int 0, .int 0, .int 0, .int 0, .int 0, .ref az, .ref ae, .ref ao, .ref an, .ref au, .int 0, .int 0, .int 0, .ref ap, .ref aw, .int 0, .int 0, .int 0, .int 0, .int 0])), (ar, .inl (tr, 8, .inl g))] sz = A at hD ⊢
  have hA : ∀ q : Nat, s.heap.size ≤ q → A q := fun q h => by rw [← hAe]; exact Or.inr (by omega)
  have hS0 : ∀ G : Heap, s.heap = G → va_S A s.heap G [] := fun G h => by subst h; exact va_S.rf
  generalize hHe : s.heap = H at hP ⊢
  have hS := hS0 H hHe
  have hP : va_P (dC, dI) vwCl [(h0, .inr (8, [.int 0, .ref am, .ref ad, .ref ab, .int 0, .int 224, .ref ar, .int 0, .int 0, .int 0, .int 0, .int 0, .int 0, .ref az, .ref ae, .ref ao, .ref an, .ref au, .int 0, .int 0, .int 0, .ref ap, .ref aw, .int 0, .int 0, .int 0, .int 0, .int 0])), (ar, .inl (tr, 8, .inl g))] H := hP
  have hD : va_D A [(h0, .inr (8, [.int 0, .ref am, .ref ad, .ref ab, .int 0, .int 224, .ref ar, .int 0, .int 0, .int 0, .int 0, .int 0, .int 0, .ref az, .ref ae, .ref ao, .ref an, .ref au, .int 0, .int 0, .int 0, .ref ap, .ref aw, .int 0, .int 0, .int 0, .int 0, .int 0])), (ar, .inl (tr, 8, .inl g))] := hD
  have hK : va_K (dC, dI) vwCl [(tr, .int)] s := hK
  have hl := lv_entry ([.ref h0]) (n := 3) (Nat.le_of_ble_eq_true rfl)
  rw [lg_entry_eq]
  generalize (lg_sl ([.ref h0]) ++ List.replicate (3 - (lg_sl ([.ref h0])).length) Slot.unset).toArray = ls at hl ⊢
  have hl : lv_has ls 3 [(0, .ref h0)] := hl
  refine lv_aload_n hx hb dX9_step_0 rfl (lv_at hl 0 rfl) ?_
  have hPc := hP.sub (ws' := [(h0, .inr (8, [.int 0, .ref am, .ref ad, .ref ab, .int 0, .int 224, .ref ar, .int 0, .int 0, .int 0, .int 0, .int 0, .int 0, .ref az, .ref ae, .ref ao, .ref an, .ref au, .int 0, .int 0, .int 0, .ref ap, .ref aw, .int 0, .int 0, .int 0, .int 0, .int 0])), (ar, .inl (tr, 8, .inl g))]) [0, 1] rfl
  have hDc := hD.sub (ws' := [(h0, .inr (8, [.int 0, .ref am, .ref ad, .ref ab, .int 0, .int 224, .ref ar, .int 0, .int 0, .int 0, .int 0, .int 0, .int 0, .ref az, .ref ae, .ref ao, .ref an, .ref au, .int 0, .int 0, .int 0, .ref ap, .ref aw, .int 0, .int 0, .int 0, .int 0, .int 0])), (ar, .inl (tr, 8, .inl g))]) [0, 1] (by decide) rfl
  have hKc := hK.sub (tys' := [(tr, .int)]) [0] rfl
  have hFc := va_free (wc := [(h0, .inr (8, [.int 0, .ref am, .ref ad, .ref ab, .int 0, .int 224, .ref ar, .int 0, .int 0, .int 0, .int 0, .int 0, .int 0, .ref az, .ref ae, .ref ao, .ref an, .ref au, .int 0, .int 0, .int 0, .ref ap, .ref aw, .int 0, .int 0, .int 0, .int 0, .int 0])), (ar, .inl (tr, 8, .inl g))]) hD hS hA [0, 1] rfl
  refine va_calli (va_runV (As := []) (rest := []) ⟨hx, hb, hml, hown, hts⟩ (c_m_fetch l dC dI h0 am ad ab ar az ae ao an au ap aw tr g H.size (by first | assumption | omega | decide)) (cwV 0 hts gX9_step_X9_fetch rfl rfl rfl (by decide +kernel) ⟨Nat.le_of_ble_eq_true rfl, Nat.le_of_ble_eq_true rfl⟩) ⟨fun a U g mk q => by obtain ⟨q0, q1, qP, qK, qD⟩ := q; exact ⟨q0, q1, qP, va_K.moved (u := U) (U := U.calling g mk a) (Vm.Alike.refl U.vm) qK, qD⟩, va_recv hKc hPc (ci := 8) (q0 := 0) rfl rfl, fun U hU hW => ⟨rfl, by rw [hU], by rw [hU]; exact hPc, va_K.moved hW.alike hKc, hDc.weaken (fun _ _ _ _ => trivial)⟩⟩ rfl rfl hl.1 rfl (lv_room (Nat.le_of_ble_eq_true rfl)) dX9_step_1 ⟨Nat.le_of_ble_eq_true rfl, Nat.le_of_ble_eq_true rfl⟩) hS (fun q _ h => hFc q h) hFc (fun r1 u2 t H1 locs ht hvm hw hB hz1 hk1 hS => ?_)
  obtain ⟨hP1, hK1, hD1⟩ := hB
  rw [ht] at hP1
  have hK1 := va_K.moved hvm.symm hK1
  try dsimp only at hw
  obtain ⟨hP, hD⟩ := va_join (wr := []) (w1 := [(h0, .inr (8, [.int 0, .ref am, .ref ad, .ref ab, .int 0, .int 224, .ref ar, .int 0, .int 0, .int 0, .int 4, .int 0, .int 0, .ref az, .ref ae, .ref ao, .ref an, .ref au, .int 0, .int 0, .int 0, .ref ap, .ref aw, .int 0, .int 0, .int 0, .int 0, .int 0])), (ar, .inl (tr, 8, .inl g))]) hP hD [0, 1] [] rfl rfl (by decide) (by decide) hk1 hFc hP1 hD1
  have hK := (hK.sub (tys' := []) [] rfl).app hK1
  generalize H1 = H at hP hS ⊢
  have hP : va_P (dC, dI) vwCl [(h0, .inr (8, [.int 0, .ref am, .ref ad, .ref ab, .int 0, .int 224, .ref ar, .int 0, .int 0, .int 0, .int 4, .int 0, .int 0, .ref az, .ref ae, .ref ao, .ref an, .ref au, .int 0, .int 0, .int 0, .ref ap, .ref aw, .int 0, .int 0, .int 0, .int 0, .int 0])), (ar, .inl (tr, 8, .inl g))] H := hP
  have hD : va_D A [(h0, .inr (8, [.int 0, .ref am, .ref ad, .ref ab, .int 0, .int 224, .ref ar, .int 0, .int 0, .int 0, .int 4, .int 0, .int 0, .ref az, .ref ae, .ref ao, .ref an, .ref au, .int 0, .int 0, .int 0, .ref ap, .ref aw, .int 0, .int 0, .int 0, .int 0, .int 0])), (ar, .inl (tr, 8, .inl g))] := hD
  have hK : va_K (dC, dI) vwCl [(tr, .int)] s := hK
  refine W.widen (k := 0) (n := 0) (Nat.le_of_ble_eq_true rfl) (Nat.le_of_ble_eq_true rfl) ?_
  obtain rfl := hw
  refine lv_istore_n (lv' := [(1, .int 0), (0, .ref h0)]) hx hb dX9_step_4 rfl hl (by decide) rfl (fun ls hl => ?_)
  refine lv_aload_n hx hb dX9_step_5 rfl (lv_at hl 1 rfl) ?_
  refine va_get (D := (dC, dI)) (ci := 8) (v := .int 4) (C := RX9) (T := TX9) (N := 28) hx hb hts (by decide +kernel) hown hK hP 0 rfl rfl 10 (by decide) (hts (.fieldLink RX9 87 "UnibusMachineModel" "wrong" "I") (by decide +kernel)) (fun _ h9 => h9) rfl dX9_step_6 ?_
  refine lv_if_le (tgt := 13) hx hb dX9_step_9 (by decide) (fun c3 => ?_) (fun c3 => ?_)
  · exact absurd c3 (by decide)
  · skip
    have hP9 := hP.sub (ws' := [(h0, .inr (8, [.int 0, .ref am, .ref ad, .ref ab, .int 0, .int 224, .ref ar, .int 0, .int 0, .int 0, .int 4, .int 0, .int 0, .ref az, .ref ae, .ref ao, .ref an, .ref au, .int 0, .int 0, .int 0, .ref ap, .ref aw, .int 0, .int 0, .int 0, .int 0, .int 0])), (ar, .inl (tr, 8, .inl g))]) [0, 1] rfl
    have hD9 := hD.sub (ws' := [(h0, .inr (8, [.int 0, .ref am, .ref ad, .ref ab, .int 0, .int 224, .ref ar, .int 0, .int 0, .int 0, .int 4, .int 0, .int 0, .ref az, .ref ae, .ref ao, .ref an, .ref au, .int 0, .int 0, .int 0, .ref ap, .ref aw, .int 0, .int 0, .int 0, .int 0, .int 0])), (ar, .inl (tr, 8, .inl g))]) [0, 1] (by decide) rfl
    have hK9 := hK.sub (tys' := [(tr, .int)]) [0] rfl
    exact W.vret hx hb hr (fun t ht hW => ⟨⟨(), rfl, trivial, by rw [ht]; exact hP9, va_K.moved hW.alike hK9, hD9⟩, hS.F ht⟩) hS.2.2 dX9_step_12
set_option maxHeartbeats 4000000 in
set_option maxRecDepth 100000 in
theorem c_m_trap (l : Launch) (dC : Nat → ClassId) (dI : Nat → Nat → Nat) (h0 : Nat) (am : Nat) (ad : Nat) (ab : Nat) (ar : Nat) (az : Nat) (ae : Nat) (ao : Nat) (an : Nat) (au : Nat) (ap : Nat) (aw : Nat) (tm : ClassId) (tr : ClassId) (f : Nat → Int32) (g : Nat → Int32) (z : Int) (sz : Nat) (hF0 : f (2 : Int32).toNatClampNeg = 1) (hF1 : f (3 : Int32).toNatClampNeg = 224) (hF2 : ∀ i : Nat, 0 ≤ (f i).toInt) (hF3 : g (7 : Int32).toNatClampNeg = 1) (hF4 : (g (6 : Int32).toNatClampNeg).toInt = z) (hH5 : 170 ≤ z) (hH6 : z ≤ 1024) (hH7 : z % 2 = 0) : Met l yX9_trap wsX9_trap ({ frames := 4, cells := 0, slots := 0, locals := 89 } : Room) (va_Pc [.ref h0, .int 4] (fun U => U.heap.size = sz ∧ va_P (dC, dI) vwCl [(h0, .inr (8, [.int 0, .ref am, .ref ad, .ref ab, .int 0, .int 224, .ref ar, .int 0, .int 0, .int 0, .int 4, .int 0, .int 0, .ref az, .ref ae, .ref ao, .ref an, .ref au, .int 0, .int 0, .int 0, .ref ap, .ref aw, .int 0, .int 0, .int 0, .int 0, .int 0])), (am, .inl (tm, 512, .inl f)), (ar, .inl (tr, 8, .inl g))] U.heap ∧ va_K (dC, dI) vwCl [(tm, .int), (tr, .int)] U ∧ va_D (fun _ => True) [(h0, .inr (8, [.int 0, .ref am, .ref ad, .ref ab, .int 0, .int 224, .ref ar, .int 0, .int 0, .int 0, .int 4, .int 0, .int 0, .ref az, .ref ae, .ref ao, .ref an, .ref au, .int 0, .int 0, .int 0, .ref ap, .ref aw, .int 0, .int 0, .int 0, .int 0, .int 0])), (am, .inl (tm, 512, .inl f)), (ar, .inl (tr, 8, .inl g))])) (va_Qv (fun (u : (Nat → Int32) × (Nat → Int32)) => (u.1 (2 : Int32).toNatClampNeg = 1) ∧ (u.1 (3 : Int32).toNatClampNeg = 224) ∧ (∀ i : Nat, 0 ≤ (u.1 i).toInt) ∧ (u.2 (7 : Int32).toNatClampNeg = 1) ∧ ((u.2 (6 : Int32).toNatClampNeg).toInt = z - 4)) (fun (u : (Nat → Int32) × (Nat → Int32)) (t : State) => va_P (dC, dI) vwCl [(h0, .inr (8, [.int 0, .ref am, .ref ad, .ref ab, .int 0, .int 224, .ref ar, .int 0, .int 0, .int 0, .int 0, .int 0, .int 0, .ref az, .ref ae, .ref ao, .ref an, .ref au, .int 0, .int 0, .int 0, .ref ap, .ref aw, .int 0, .int 0, .int 0, .int 0, .int 0])), (am, .inl (tm, 512, .inl u.1)), (ar, .inl (tr, 8, .inl u.2))] t.heap ∧ va_K (dC, dI) vwCl [(tm, .int), (tr, .int)] t ∧ va_D (va_A [(h0, .inr (8, [.int 0, .ref am, .ref ad, .ref ab, .int 0, .int 224, .ref ar, .int 0, .int 0, .int 0, .int 4, .int 0, .int 0, .ref az, .ref ae, .ref ao, .ref an, .ref au, .int 0, .int 0, .int 0, .ref ap, .ref aw, .int 0, .int 0, .int 0, .int 0, .int 0])), (am, .inl (tm, 512, .inl f)), (ar, .inl (tr, 8, .inl g))] sz) [(h0, .inr (8, [.int 0, .ref am, .ref ad, .ref ab, .int 0, .int 224, .ref ar, .int 0, .int 0, .int 0, .int 0, .int 0, .int 0, .ref az, .ref ae, .ref ao, .ref an, .ref au, .int 0, .int 0, .int 0, .ref ap, .ref aw, .int 0, .int 0, .int 0, .int 0, .int 0])), (am, .inl (tm, 512, .inl u.1)), (ar, .inl (tr, 8, .inl u.2))]) (va_A [(h0, .inr (8, [.int 0, .ref am, .ref ad, .ref ab, .int 0, .int 224, .ref ar, .int 0, .int 0, .int 0, .int 4, .int 0, .int 0, .ref az, .ref ae, .ref ao, .ref an, .ref au, .int 0, .int 0, .int 0, .ref ap, .ref aw, .int 0, .int 0, .int 0, .int 0, .int 0])), (am, .inl (tm, 512, .inl f)), (ar, .inl (tr, 8, .inl g))] sz)) 0 0 (va_A [(h0, .inr (8, [.int 0, .ref am, .ref ad, .ref ab, .int 0, .int 224, .ref ar, .int 0, .int 0, .int 0, .int 4, .int 0, .int 0, .ref az, .ref ae, .ref ao, .ref an, .ref au, .int 0, .int 0, .int 0, .ref ap, .ref aw, .int 0, .int 0, .int 0, .int 0, .int 0])), (am, .inl (tm, 512, .inl f)), (ar, .inl (tr, 8, .inl g))] sz) := by
  refine Met.ofW (cc := cX9_trap) (maxL := 6) (ret := none) (by decide) rfl ?_
  intro p e s m args below meth c s₁ B hml hv
  obtain ⟨rfl, hsz, hP, hK, hD0⟩ := hv
  have hx := B.exec
  have hb := B.bytes
  have hr := B.returns
  have hts := atoms_spec (ws := wsX9_trap) B.pre
  have hown : s.vm.findClass RX9 = some m.cls := findClass_of_methodNamed B.named
  have hlocks := B.notSynchronized
  have hD := hD0.self (sz := sz)
  generalize hAe : va_A [(h0, .inr (8, [.int 0, .ref am, .ref ad, .ref ab, .int 0, .int 224, .ref ar, .int 0, .int 0, .int 0, .int 4, .int 0, .int 0, .ref az, .ref ae, .ref ao, .ref an, .ref au, .int 0, .int 0, .int 0, .ref ap, .ref aw, .int 0, .int 0, .int 0, .int 0, .int 0])), (am, .inl (tm, 512, .inl f)), (ar, .inl (tr, 8, .inl g))] sz = A at hD ⊢
  have hA : ∀ q : Nat, s.heap.size ≤ q → A q := fun q h => by rw [← hAe]; exact Or.inr (by omega)
  have hS0 : ∀ G : Heap, s.heap = G → va_S A s.heap G [] := fun G h => by subst h; exact va_S.rf
  generalize hHe : s.heap = H at hP ⊢
  have hS := hS0 H hHe
  have hP : va_P (dC, dI) vwCl [(h0, .inr (8, [.int 0, .ref am, .ref ad, .ref ab, .int 0, .int 224, .ref ar, .int 0, .int 0, .int 0, .int 4, .int 0, .int 0, .ref az, .ref ae, .ref ao, .ref an, .ref au, .int 0, .int 0, .int 0, .ref ap, .ref aw, .int 0, .int 0, .int 0, .int 0, .int 0])), (am, .inl (tm, 512, .inl f)), (ar, .inl (tr, 8, .inl g))] H := hP
  have hD : va_D A [(h0, .inr (8, [.int 0, .ref am, .ref ad, .ref ab, .int 0, .int 224, .ref ar, .int 0, .int 0, .int 0, .int 4, .int 0, .int 0, .ref az, .ref ae, .ref ao, .ref an, .ref au, .int 0, .int 0, .int 0, .ref ap, .ref aw, .int 0, .int 0, .int 0, .int 0, .int 0])), (am, .inl (tm, 512, .inl f)), (ar, .inl (tr, 8, .inl g))] := hD
  have hK : va_K (dC, dI) vwCl [(tm, .int), (tr, .int)] s := hK
  have hl := lv_entry ([.ref h0, .int 4]) (n := 6) (Nat.le_of_ble_eq_true rfl)
  rw [lg_entry_eq]
  generalize (lg_sl ([.ref h0, .int 4]) ++ List.replicate (6 - (lg_sl ([.ref h0, .int 4])).length) Slot.unset).toArray = ls at hl ⊢
  have hl : lv_has ls 6 [(0, .ref h0), (1, .int 4)] := hl
  refine lv_aload_n hx hb dX9_trap_0 rfl (lv_at hl 0 rfl) ?_
  refine va_get (D := (dC, dI)) (ci := 8) (v := .int 224) (C := RX9) (T := TX9) (N := 28) hx hb hts (by decide +kernel) hown hK hP 0 rfl rfl 5 (by decide) (hts (.fieldLink RX9 84 "UnibusMachineModel" "status" "I") (by decide +kernel)) (fun _ h9 => h9) rfl dX9_trap_1 ?_
  refine lv_istore_n (lv' := [(2, .int 224), (0, .ref h0), (1, .int 4)]) hx hb dX9_trap_4 rfl hl (by decide) rfl (fun ls hl => ?_)
  refine lv_aload_n hx hb dX9_trap_5 rfl (lv_at hl 1 rfl) ?_
  refine va_get (D := (dC, dI)) (ci := 8) (v := .ref ar) (C := RX9) (T := TX9) (N := 28) hx hb hts (by decide +kernel) hown hK hP 0 rfl rfl 6 (by decide) (hts (.fieldLink RX9 19 "UnibusMachineModel" "reg" "[I") (by decide +kernel)) (fun _ h9 => h9) rfl dX9_trap_6 ?_
  refine lv_bipush (v := 7) hx hb dX9_trap_9 (by decide) ?_
  refine va_iald (D := (dC, dI)) hx hb hK hP 2 1 rfl rfl (vp_in_iff.mpr (by decide)) dX9_trap_11 ?_
  refine lv_topi (fun y1 ey1 => ?_)
  obtain rfl : y1 = 1 := by rw [ey1]; assumption
  refine lv_istore_n (lv' := [(3, .int 1), (2, .int 224), (0, .ref h0), (1, .int 4)]) hx hb dX9_trap_12 rfl hl (by decide) rfl (fun ls hl => ?_)
  refine lv_aload_n hx hb dX9_trap_13 rfl (lv_at hl 2 rfl) ?_
  refine lv_iconst (v := 0) hx hb dX9_trap_14 (by decide) ?_
  refine va_put (D := (dC, dI)) (ci := 8) (v := .int 0) (ty := .int) (C := RX9) (T := TX9) (N := 28) hx hb hts (by decide +kernel) tyX9 tyX9_ok nmX9 hown hK hP hD hS 0 rfl rfl 10 (by decide) (hts (.fieldLink RX9 87 "UnibusMachineModel" "wrong" "I") (by decide +kernel)) (fun _ h9 => h9) rfl (by decide +kernel) rfl rfl (Nat.le_of_ble_eq_true rfl) dX9_trap_15 (fun H locs hP hD hS => ?_)
  have hP : va_P (dC, dI) vwCl [(h0, .inr (8, [.int 0, .ref am, .ref ad, .ref ab, .int 0, .int 224, .ref ar, .int 0, .int 0, .int 0, .int 0, .int 0, .int 0, .ref az, .ref ae, .ref ao, .ref an, .ref au, .int 0, .int 0, .int 0, .ref ap, .ref aw, .int 0, .int 0, .int 0, .int 0, .int 0])), (am, .inl (tm, 512, .inl f)), (ar, .inl (tr, 8, .inl g))] H := hP
  have hD : va_D A [(h0, .inr (8, [.int 0, .ref am, .ref ad, .ref ab, .int 0, .int 224, .ref ar, .int 0, .int 0, .int 0, .int 0, .int 0, .int 0, .ref az, .ref ae, .ref ao, .ref an, .ref au, .int 0, .int 0, .int 0, .ref ap, .ref aw, .int 0, .int 0, .int 0, .int 0, .int 0])), (am, .inl (tm, 512, .inl f)), (ar, .inl (tr, 8, .inl g))] := hD
  refine lv_aload_n hx hb dX9_trap_18 rfl (lv_at hl 2 rfl) ?_
  refine lv_iload_n hx hb dX9_trap_19 rfl (lv_at hl 3 rfl) ?_
  refine lv_iconst (v := 0) hx hb dX9_trap_20 (by decide) ?_
  have hPc := hP.sub (ws' := [(h0, .inr (8, [.int 0, .ref am, .ref ad, .ref ab, .int 0, .int 224, .ref ar, .int 0, .int 0, .int 0, .int 0, .int 0, .int 0, .ref az, .ref ae, .ref ao, .ref an, .ref au, .int 0, .int 0, .int 0, .ref ap, .ref aw, .int 0, .int 0, .int 0, .int 0, .int 0])), (am, .inl (tm, 512, .inl f))]) [0, 1] rfl
  have hDc := hD.sub (ws' := [(h0, .inr (8, [.int 0, .ref am, .ref ad, .ref ab, .int 0, .int 224, .ref ar, .int 0, .int 0, .int 0, .int 0, .int 0, .int 0, .ref az, .ref ae, .ref ao, .ref an, .ref au, .int 0, .int 0, .int 0, .ref ap, .ref aw, .int 0, .int 0, .int 0, .int 0, .int 0])), (am, .inl (tm, 512, .inl f))]) [0, 1] (by decide) rfl
  have hKc := hK.sub (tys' := [(tm, .int)]) [0] rfl
  have hFc := va_free (wc := [(h0, .inr (8, [.int 0, .ref am, .ref ad, .ref ab, .int 0, .int 224, .ref ar, .int 0, .int 0, .int 0, .int 0, .int 0, .int 0, .ref az, .ref ae, .ref ao, .ref an, .ref au, .int 0, .int 0, .int 0, .ref ap, .ref aw, .int 0, .int 0, .int 0, .int 0, .int 0])), (am, .inl (tm, 512, .inl f))]) hD hS hA [0, 1] rfl
  refine va_calli (va_runV (As := [.int 4, .int 0]) (rest := []) ⟨hx, hb, hml, hown, hts⟩ (c_m_wordAt4 l dC dI h0 am ad ab ar az ae ao an au ap aw tm f H.size (by first | assumption | omega | decide)) (cwV 2 hts gX9_trap_X9_wordAt rfl rfl rfl (by decide +kernel) ⟨Nat.le_of_ble_eq_true rfl, Nat.le_of_ble_eq_true rfl⟩) ⟨fun a U g mk q => by obtain ⟨q0, q1, qP, qK, qD⟩ := q; exact ⟨q0, q1, qP, va_K.moved (u := U) (U := U.calling g mk a) (Vm.Alike.refl U.vm) qK, qD⟩, va_recv hKc hPc (ci := 8) (q0 := 0) rfl rfl, fun U hU hW => ⟨rfl, by rw [hU], by rw [hU]; exact hPc, va_K.moved hW.alike hKc, hDc.weaken (fun _ _ _ _ => trivial)⟩⟩ rfl rfl hl.1 rfl (lv_room (Nat.le_of_ble_eq_true rfl)) dX9_trap_21 ⟨Nat.le_of_ble_eq_true rfl, Nat.le_of_ble_eq_true rfl⟩) hS (fun q _ h => hFc q h) hFc (fun r2 u3 t H1 locs ht hvm hw hB hz1 hk1 hS => ?_)
  obtain ⟨hP1, hK1, hD1⟩ := hB
  rw [ht] at hP1
  have hK1 := va_K.moved hvm.symm hK1
  try dsimp only at hw
  obtain ⟨hP, hD⟩ := va_join (wr := [(ar, .inl (tr, 8, .inl g))]) (w1 := [(h0, .inr (8, [.int 0, .ref am, .ref ad, .ref ab, .int 0, .int 224, .ref ar, .int 0, .int 0, .int 0, .int 0, .int 0, .int 0, .ref az, .ref ae, .ref ao, .ref an, .ref au, .int 0, .int 0, .int 0, .ref ap, .ref aw, .int 0, .int 0, .int 0, .int 0, .int 0])), (am, .inl (tm, 512, .inl f))]) hP hD [0, 1] [2] rfl rfl (by decide) (by decide) hk1 hFc hP1 hD1
  have hK := (hK.sub (tys' := [(tr, .int)]) [1] rfl).app hK1
  generalize H1 = H at hP hS ⊢
  have hP : va_P (dC, dI) vwCl [(ar, .inl (tr, 8, .inl g)), (h0, .inr (8, [.int 0, .ref am, .ref ad, .ref ab, .int 0, .int 224, .ref ar, .int 0, .int 0, .int 0, .int 0, .int 0, .int 0, .ref az, .ref ae, .ref ao, .ref an, .ref au, .int 0, .int 0, .int 0, .ref ap, .ref aw, .int 0, .int 0, .int 0, .int 0, .int 0])), (am, .inl (tm, 512, .inl f))] H := hP
  have hD : va_D A [(ar, .inl (tr, 8, .inl g)), (h0, .inr (8, [.int 0, .ref am, .ref ad, .ref ab, .int 0, .int 224, .ref ar, .int 0, .int 0, .int 0, .int 0, .int 0, .int 0, .ref az, .ref ae, .ref ao, .ref an, .ref au, .int 0, .int 0, .int 0, .ref ap, .ref aw, .int 0, .int 0, .int 0, .int 0, .int 0])), (am, .inl (tm, 512, .inl f))] := hD
  have hK : va_K (dC, dI) vwCl [(tr, .int), (tm, .int)] s := hK
  refine W.widen (k := 0) (n := 0) (Nat.le_of_ble_eq_true rfl) (Nat.le_of_ble_eq_true rfl) ?_
  obtain rfl := hw
  refine lv_istore (lv' := [(4, .int 1), (3, .int 1), (2, .int 224), (0, .ref h0), (1, .int 4)]) hx hb dX9_trap_24 hl (by decide) rfl (fun ls hl => ?_)
  refine lv_aload_n hx hb dX9_trap_26 rfl (lv_at hl 3 rfl) ?_
  refine lv_iload_n hx hb dX9_trap_27 rfl (lv_at hl 4 rfl) ?_
  refine lv_iconst (v := 2) hx hb dX9_trap_28 (by decide) ?_
  refine lv_iadd hx hb dX9_trap_29 ?_
  refine lv_topi (fun y4 ey4 => ?_)
  obtain rfl : y4 = 6 := by rw [ey4]; decide
  refine lv_iconst (v := 0) hx hb dX9_trap_30 (by decide) ?_
  have hPc := hP.sub (ws' := [(h0, .inr (8, [.int 0, .ref am, .ref ad, .ref ab, .int 0, .int 224, .ref ar, .int 0, .int 0, .int 0, .int 0, .int 0, .int 0, .ref az, .ref ae, .ref ao, .ref an, .ref au, .int 0, .int 0, .int 0, .ref ap, .ref aw, .int 0, .int 0, .int 0, .int 0, .int 0])), (am, .inl (tm, 512, .inl f))]) [1, 2] rfl
  have hDc := hD.sub (ws' := [(h0, .inr (8, [.int 0, .ref am, .ref ad, .ref ab, .int 0, .int 224, .ref ar, .int 0, .int 0, .int 0, .int 0, .int 0, .int 0, .ref az, .ref ae, .ref ao, .ref an, .ref au, .int 0, .int 0, .int 0, .ref ap, .ref aw, .int 0, .int 0, .int 0, .int 0, .int 0])), (am, .inl (tm, 512, .inl f))]) [1, 2] (by decide) rfl
  have hKc := hK.sub (tys' := [(tm, .int)]) [1] rfl
  have hFc := va_free (wc := [(h0, .inr (8, [.int 0, .ref am, .ref ad, .ref ab, .int 0, .int 224, .ref ar, .int 0, .int 0, .int 0, .int 0, .int 0, .int 0, .ref az, .ref ae, .ref ao, .ref an, .ref au, .int 0, .int 0, .int 0, .ref ap, .ref aw, .int 0, .int 0, .int 0, .int 0, .int 0])), (am, .inl (tm, 512, .inl f))]) hD hS hA [1, 2] rfl
  refine va_calli (va_runV (As := [.int 6, .int 0]) (rest := []) ⟨hx, hb, hml, hown, hts⟩ (c_m_wordAt6 l dC dI h0 am ad ab ar az ae ao an au ap aw tm f H.size (by first | assumption | omega | decide)) (cwV 2 hts gX9_trap_X9_wordAt rfl rfl rfl (by decide +kernel) ⟨Nat.le_of_ble_eq_true rfl, Nat.le_of_ble_eq_true rfl⟩) ⟨fun a U g mk q => by obtain ⟨q0, q1, qP, qK, qD⟩ := q; exact ⟨q0, q1, qP, va_K.moved (u := U) (U := U.calling g mk a) (Vm.Alike.refl U.vm) qK, qD⟩, va_recv hKc hPc (ci := 8) (q0 := 0) rfl rfl, fun U hU hW => ⟨rfl, by rw [hU], by rw [hU]; exact hPc, va_K.moved hW.alike hKc, hDc.weaken (fun _ _ _ _ => trivial)⟩⟩ rfl rfl hl.1 rfl (lv_room (Nat.le_of_ble_eq_true rfl)) dX9_trap_31 ⟨Nat.le_of_ble_eq_true rfl, Nat.le_of_ble_eq_true rfl⟩) hS (fun q _ h => hFc q h) hFc (fun r5 u6 t H1 locs ht hvm hw hB hz1 hk1 hS => ?_)
  obtain ⟨hP1, hK1, hD1⟩ := hB
  rw [ht] at hP1
  have hK1 := va_K.moved hvm.symm hK1
  try dsimp only at hw
  obtain ⟨hP, hD⟩ := va_join (wr := [(ar, .inl (tr, 8, .inl g))]) (w1 := [(h0, .inr (8, [.int 0, .ref am, .ref ad, .ref ab, .int 0, .int 224, .ref ar, .int 0, .int 0, .int 0, .int 0, .int 0, .int 0, .ref az, .ref ae, .ref ao, .ref an, .ref au, .int 0, .int 0, .int 0, .ref ap, .ref aw, .int 0, .int 0, .int 0, .int 0, .int 0])), (am, .inl (tm, 512, .inl f))]) hP hD [1, 2] [0] rfl rfl (by decide) (by decide) hk1 hFc hP1 hD1
  have hK := (hK.sub (tys' := [(tr, .int)]) [0] rfl).app hK1
  generalize H1 = H at hP hS ⊢
  have hP : va_P (dC, dI) vwCl [(ar, .inl (tr, 8, .inl g)), (h0, .inr (8, [.int 0, .ref am, .ref ad, .ref ab, .int 0, .int 224, .ref ar, .int 0, .int 0, .int 0, .int 0, .int 0, .int 0, .ref az, .ref ae, .ref ao, .ref an, .ref au, .int 0, .int 0, .int 0, .ref ap, .ref aw, .int 0, .int 0, .int 0, .int 0, .int 0])), (am, .inl (tm, 512, .inl f))] H := hP
  have hD : va_D A [(ar, .inl (tr, 8, .inl g)), (h0, .inr (8, [.int 0, .ref am, .ref ad, .ref ab, .int 0, .int 224, .ref ar, .int 0, .int 0, .int 0, .int 0, .int 0, .int 0, .ref az, .ref ae, .ref ao, .ref an, .ref au, .int 0, .int 0, .int 0, .ref ap, .ref aw, .int 0, .int 0, .int 0, .int 0, .int 0])), (am, .inl (tm, 512, .inl f))] := hD
  have hK : va_K (dC, dI) vwCl [(tr, .int), (tm, .int)] s := hK
  refine W.widen (k := 0) (n := 0) (Nat.le_of_ble_eq_true rfl) (Nat.le_of_ble_eq_true rfl) ?_
  obtain rfl := hw
  refine lv_istore (lv' := [(5, .int 224), (4, .int 1), (3, .int 1), (2, .int 224), (0, .ref h0), (1, .int 4)]) hx hb dX9_trap_34 hl (by decide) rfl (fun ls hl => ?_)
  refine lv_aload_n hx hb dX9_trap_36 rfl (lv_at hl 4 rfl) ?_
  refine va_get (D := (dC, dI)) (ci := 8) (v := .int 0) (C := RX9) (T := TX9) (N := 28) hx hb hts (by decide +kernel) hown hK hP 1 rfl rfl 10 (by decide) (hts (.fieldLink RX9 87 "UnibusMachineModel" "wrong" "I") (by decide +kernel)) (fun _ h9 => h9) rfl dX9_trap_37 ?_
  refine lv_if_ne (tgt := 77) hx hb dX9_trap_40 (by decide) (fun c7 => ?_) (fun c7 => ?_)
  · exact absurd c7 (by decide)
  · skip
    refine lv_aload_n hx hb dX9_trap_43 rfl (lv_at hl 4 rfl) ?_
    refine lv_iload hx hb dX9_trap_44 (lv_at hl 0 rfl) ?_
    refine lv_sipush (v := 16623) hx hb dX9_trap_46 (by decide) ?_
    refine lv_iand hx hb dX9_trap_49 ?_
    refine lv_topi (fun y8 ey8 => ?_)
    obtain rfl : y8 = 224 := by rw [ey8]; decide
    refine lv_aload_n hx hb dX9_trap_50 rfl (lv_at hl 4 rfl) ?_
    refine va_get (D := (dC, dI)) (ci := 8) (v := .int 0) (C := RX9) (T := TX9) (N := 28) hx hb hts (by decide +kernel) hown hK hP 1 rfl rfl 8 (by decide) (hts (.fieldLink RX9 116 "UnibusMachineModel" "mode" "I") (by decide +kernel)) (fun _ h9 => h9) rfl dX9_trap_51 ?_
    refine lv_iconst (v := 1) hx hb dX9_trap_54 (by decide) ?_
    refine lv_icmp_ne (tgt := 62) hx hb dX9_trap_55 (by decide) (fun c9 => ?_) (fun c9 => ?_)
    · skip
      refine lv_iconst (v := 0) hx hb dX9_trap_62 (by decide) ?_
      refine lv_sipush (v := 4096) hx hb dX9_trap_63 (by decide) ?_
      have hPc := hP.sub (ws' := []) [] rfl
      have hDc := hD.sub (ws' := []) [] (by decide) rfl
      have hKc := hK.sub (tys' := []) [] rfl
      have hFc := va_free (wc := []) hD hS hA [] rfl
      refine va_calli (va_runS (As := [.int 0, .int 4096]) (rest := [.int 224, .ref h0]) ⟨hx, hb, hml, hown, hts⟩ (c_m_bit l dC dI  H.size) (va_cwS 2 hts gX9_trap_X9_bit rfl rfl rfl (by decide +kernel) ⟨Nat.le_of_ble_eq_true rfl, Nat.le_of_ble_eq_true rfl⟩) ⟨fun a U g mk q => by obtain ⟨q0, q1, qP, qK, qD⟩ := q; exact ⟨q0, q1, qP, va_K.moved (u := U) (U := U.calling g mk a) (Vm.Alike.refl U.vm) qK, qD⟩, fun U hU hW => ⟨rfl, by rw [hU], by rw [hU]; exact hPc, va_K.moved hW.alike hKc, hDc.weaken (fun _ _ _ _ => trivial)⟩⟩ rfl rfl hl.1 rfl (lv_room (Nat.le_of_ble_eq_true rfl)) dX9_trap_66 ⟨Nat.le_of_ble_eq_true rfl, Nat.le_of_ble_eq_true rfl⟩) hS (fun q _ h => hFc q h) hFc (fun r10 u11 t H1 locs ht hvm hw hB hz1 hk1 hS => ?_)
      obtain ⟨hP1, hK1, hD1⟩ := hB
      rw [ht] at hP1
      have hK1 := va_K.moved hvm.symm hK1
      try dsimp only at hw
      obtain ⟨hP, hD⟩ := va_join (wr := [(ar, .inl (tr, 8, .inl g)), (h0, .inr (8, [.int 0, .ref am, .ref ad, .ref ab, .int 0, .int 224, .ref ar, .int 0, .int 0, .int 0, .int 0, .int 0, .int 0, .ref az, .ref ae, .ref ao, .ref an, .ref au, .int 0, .int 0, .int 0, .ref ap, .ref aw, .int 0, .int 0, .int 0, .int 0, .int 0])), (am, .inl (tm, 512, .inl f))]) (w1 := []) hP hD [] [0, 1, 2] rfl rfl (by decide) (by decide) hk1 hFc hP1 hD1
      have hK := (hK.sub (tys' := [(tr, .int), (tm, .int)]) [0, 1] rfl).app hK1
      generalize H1 = H at hP hS ⊢
      have hP : va_P (dC, dI) vwCl [(ar, .inl (tr, 8, .inl g)), (h0, .inr (8, [.int 0, .ref am, .ref ad, .ref ab, .int 0, .int 224, .ref ar, .int 0, .int 0, .int 0, .int 0, .int 0, .int 0, .ref az, .ref ae, .ref ao, .ref an, .ref au, .int 0, .int 0, .int 0, .ref ap, .ref aw, .int 0, .int 0, .int 0, .int 0, .int 0])), (am, .inl (tm, 512, .inl f))] H := hP
      have hD : va_D A [(ar, .inl (tr, 8, .inl g)), (h0, .inr (8, [.int 0, .ref am, .ref ad, .ref ab, .int 0, .int 224, .ref ar, .int 0, .int 0, .int 0, .int 0, .int 0, .int 0, .ref az, .ref ae, .ref ao, .ref an, .ref au, .int 0, .int 0, .int 0, .ref ap, .ref aw, .int 0, .int 0, .int 0, .int 0, .int 0])), (am, .inl (tm, 512, .inl f))] := hD
      have hK : va_K (dC, dI) vwCl [(tr, .int), (tm, .int)] s := hK
      refine W.widen (k := 0) (n := 0) (Nat.le_of_ble_eq_true rfl) (Nat.le_of_ble_eq_true rfl) ?_
      obtain rfl := hw
      refine lv_iadd hx hb dX9_trap_69 ?_
      refine lv_topi (fun y12 ey12 => ?_)
      obtain rfl : y12 = 224 := by rw [ey12]; decide
      refine va_put (D := (dC, dI)) (ci := 8) (v := .int 224) (ty := .int) (C := RX9) (T := TX9) (N := 28) hx hb hts (by decide +kernel) tyX9 tyX9_ok nmX9 hown hK hP hD hS 1 rfl rfl 5 (by decide) (hts (.fieldLink RX9 84 "UnibusMachineModel" "status" "I") (by decide +kernel)) (fun _ h9 => h9) rfl (by decide +kernel) rfl rfl (Nat.le_of_ble_eq_true rfl) dX9_trap_70 (fun H locs hP hD hS => ?_)
      have hP : va_P (dC, dI) vwCl [(ar, .inl (tr, 8, .inl g)), (h0, .inr (8, [.int 0, .ref am, .ref ad, .ref ab, .int 0, .int 224, .ref ar, .int 0, .int 0, .int 0, .int 0, .int 0, .int 0, .ref az, .ref ae, .ref ao, .ref an, .ref au, .int 0, .int 0, .int 0, .ref ap, .ref aw, .int 0, .int 0, .int 0, .int 0, .int 0])), (am, .inl (tm, 512, .inl f))] H := hP
      have hD : va_D A [(ar, .inl (tr, 8, .inl g)), (h0, .inr (8, [.int 0, .ref am, .ref ad, .ref ab, .int 0, .int 224, .ref ar, .int 0, .int 0, .int 0, .int 0, .int 0, .int 0, .ref az, .ref ae, .ref ao, .ref an, .ref au, .int 0, .int 0, .int 0, .ref ap, .ref aw, .int 0, .int 0, .int 0, .int 0, .int 0])), (am, .inl (tm, 512, .inl f))] := hD
      refine lv_aload_n hx hb dX9_trap_73 rfl (lv_at hl 4 rfl) ?_
      have hPc := hP.sub (ws' := [(h0, .inr (8, [.int 0, .ref am, .ref ad, .ref ab, .int 0, .int 224, .ref ar, .int 0, .int 0, .int 0, .int 0, .int 0, .int 0, .ref az, .ref ae, .ref ao, .ref an, .ref au, .int 0, .int 0, .int 0, .ref ap, .ref aw, .int 0, .int 0, .int 0, .int 0, .int 0]))]) [1] rfl
      have hDc := hD.sub (ws' := [(h0, .inr (8, [.int 0, .ref am, .ref ad, .ref ab, .int 0, .int 224, .ref ar, .int 0, .int 0, .int 0, .int 0, .int 0, .int 0, .ref az, .ref ae, .ref ao, .ref an, .ref au, .int 0, .int 0, .int 0, .ref ap, .ref aw, .int 0, .int 0, .int 0, .int 0, .int 0]))]) [1] (by decide) rfl
      have hKc := hK.sub (tys' := []) [] rfl
      have hFc := va_free (wc := [(h0, .inr (8, [.int 0, .ref am, .ref ad, .ref ab, .int 0, .int 224, .ref ar, .int 0, .int 0, .int 0, .int 0, .int 0, .int 0, .ref az, .ref ae, .ref ao, .ref an, .ref au, .int 0, .int 0, .int 0, .ref ap, .ref aw, .int 0, .int 0, .int 0, .int 0, .int 0]))]) hD hS hA [1] rfl
      refine va_callv (va_runV (As := []) (rest := []) ⟨hx, hb, hml, hown, hts⟩ (c_m_settle l dC dI h0 am ad ab ar az ae ao an au ap aw H.size) (cwV 0 hts gX9_trap_X9_settle rfl rfl rfl (by decide +kernel) ⟨Nat.le_of_ble_eq_true rfl, Nat.le_of_ble_eq_true rfl⟩) ⟨fun a U g mk q => by obtain ⟨q0, q1, qP, qK, qD⟩ := q; exact ⟨q0, q1, qP, va_K.moved (u := U) (U := U.calling g mk a) (Vm.Alike.refl U.vm) qK, qD⟩, va_recv hKc hPc (ci := 8) (q0 := 0) rfl rfl, fun U hU hW => ⟨rfl, by rw [hU], by rw [hU]; exact hPc, va_K.moved hW.alike hKc, hDc.weaken (fun _ _ _ _ => trivial)⟩⟩ rfl rfl hl.1 rfl (lv_room (Nat.le_of_ble_eq_true rfl)) dX9_trap_74 ⟨Nat.le_of_ble_eq_true rfl, Nat.le_of_ble_eq_true rfl⟩) hS (fun q _ h => hFc q h) hFc (fun u14 t H1 locs ht hvm hw hB hz1 hk1 hS => ?_)
      obtain ⟨hP1, hK1, hD1⟩ := hB
      rw [ht] at hP1
      have hK1 := va_K.moved hvm.symm hK1
      try dsimp only at hw
      obtain ⟨hP, hD⟩ := va_join (wr := [(ar, .inl (tr, 8, .inl g)), (am, .inl (tm, 512, .inl f))]) (w1 := [(h0, .inr (8, [.int 0, .ref am, .ref ad, .ref ab, .int 0, .int 224, .ref ar, .int 0, .int 0, .int 0, .int 0, .int 0, .int 0, .ref az, .ref ae, .ref ao, .ref an, .ref au, .int 0, .int 0, .int 0, .ref ap, .ref aw, .int 0, .int 0, .int 0, .int 0, .int 0]))]) hP hD [1] [0, 2] rfl rfl (by decide) (by decide) hk1 hFc hP1 hD1
      have hK := (hK.sub (tys' := [(tr, .int), (tm, .int)]) [0, 1] rfl).app hK1
      generalize H1 = H at hP hS ⊢
      have hP : va_P (dC, dI) vwCl [(ar, .inl (tr, 8, .inl g)), (am, .inl (tm, 512, .inl f)), (h0, .inr (8, [.int 0, .ref am, .ref ad, .ref ab, .int 0, .int 224, .ref ar, .int 0, .int 0, .int 0, .int 0, .int 0, .int 0, .ref az, .ref ae, .ref ao, .ref an, .ref au, .int 0, .int 0, .int 0, .ref ap, .ref aw, .int 0, .int 0, .int 0, .int 0, .int 0]))] H := hP
      have hD : va_D A [(ar, .inl (tr, 8, .inl g)), (am, .inl (tm, 512, .inl f)), (h0, .inr (8, [.int 0, .ref am, .ref ad, .ref ab, .int 0, .int 224, .ref ar, .int 0, .int 0, .int 0, .int 0, .int 0, .int 0, .ref az, .ref ae, .ref ao, .ref an, .ref au, .int 0, .int 0, .int 0, .ref ap, .ref aw, .int 0, .int 0, .int 0, .int 0, .int 0]))] := hD
      have hK : va_K (dC, dI) vwCl [(tr, .int), (tm, .int)] s := hK
      refine W.widen (k := 0) (n := 0) (Nat.le_of_ble_eq_true rfl) (Nat.le_of_ble_eq_true rfl) ?_
      refine lv_aload_n hx hb dX9_trap_77 rfl (lv_at hl 4 rfl) ?_
      refine lv_iload_n hx hb dX9_trap_78 rfl (lv_at hl 3 rfl) ?_
      have hPc := hP.sub (ws' := [(h0, .inr (8, [.int 0, .ref am, .ref ad, .ref ab, .int 0, .int 224, .ref ar, .int 0, .int 0, .int 0, .int 0, .int 0, .int 0, .ref az, .ref ae, .ref ao, .ref an, .ref au, .int 0, .int 0, .int 0, .ref ap, .ref aw, .int 0, .int 0, .int 0, .int 0, .int 0])), (am, .inl (tm, 512, .inl f)), (ar, .inl (tr, 8, .inl g))]) [2, 1, 0] rfl
      have hDc := hD.sub (ws' := [(h0, .inr (8, [.int 0, .ref am, .ref ad, .ref ab, .int 0, .int 224, .ref ar, .int 0, .int 0, .int 0, .int 0, .int 0, .int 0, .ref az, .ref ae, .ref ao, .ref an, .ref au, .int 0, .int 0, .int 0, .ref ap, .ref aw, .int 0, .int 0, .int 0, .int 0, .int 0])), (am, .inl (tm, 512, .inl f)), (ar, .inl (tr, 8, .inl g))]) [2, 1, 0] (by decide) rfl
      have hKc := hK.sub (tys' := [(tm, .int), (tr, .int)]) [1, 0] rfl
      have hFc := va_free (wc := [(h0, .inr (8, [.int 0, .ref am, .ref ad, .ref ab, .int 0, .int 224, .ref ar, .int 0, .int 0, .int 0, .int 0, .int 0, .int 0, .ref az, .ref ae, .ref ao, .ref an, .ref au, .int 0, .int 0, .int 0, .ref ap, .ref aw, .int 0, .int 0, .int 0, .int 0, .int 0])), (am, .inl (tm, 512, .inl f)), (ar, .inl (tr, 8, .inl g))]) hD hS hA [2, 1, 0] rfl
      refine va_callv (va_runV (As := [.int 224]) (rest := []) ⟨hx, hb, hml, hown, hts⟩ (c_m_push l dC dI h0 am ad ab ar az ae ao an au ap aw tm tr f g z 224 H.size (by first | assumption | omega | decide) (by first | assumption | omega | decide) (by first | assumption | omega | decide) (by first | assumption | omega | decide) (by first | assumption | omega | decide) (by first | assumption | omega | decide) (by first | assumption | omega | decide) (by first | assumption | omega | decide) (by first | assumption | omega | decide)) (cwV 1 hts gX9_trap_X9_push rfl rfl rfl (by decide +kernel) ⟨Nat.le_of_ble_eq_true rfl, Nat.le_of_ble_eq_true rfl⟩) ⟨fun a U g mk q => by obtain ⟨q0, q1, qP, qK, qD⟩ := q; exact ⟨q0, q1, qP, va_K.moved (u := U) (U := U.calling g mk a) (Vm.Alike.refl U.vm) qK, qD⟩, va_recv hKc hPc (ci := 8) (q0 := 0) rfl rfl, fun U hU hW => ⟨rfl, by rw [hU], by rw [hU]; exact hPc, va_K.moved hW.alike hKc, hDc.weaken (fun _ _ _ _ => trivial)⟩⟩ rfl rfl hl.1 rfl (lv_room (Nat.le_of_ble_eq_true rfl)) dX9_trap_79 ⟨Nat.le_of_ble_eq_true rfl, Nat.le_of_ble_eq_true rfl⟩) hS (fun q _ h => hFc q h) hFc (fun u16 t H1 locs ht hvm hw hB hz1 hk1 hS => ?_)
      obtain ⟨hP1, hK1, hD1⟩ := hB
      rw [ht] at hP1
      have hK1 := va_K.moved hvm.symm hK1
      try dsimp only at hw
      obtain ⟨hP, hD⟩ := va_join (wr := []) (w1 := [(h0, .inr (8, [.int 0, .ref am, .ref ad, .ref ab, .int 0, .int 224, .ref ar, .int 0, .int 0, .int 0, .int 0, .int 0, .int 0, .ref az, .ref ae, .ref ao, .ref an, .ref au, .int 0, .int 0, .int 0, .ref ap, .ref aw, .int 0, .int 0, .int 0, .int 0, .int 0])), (am, .inl (tm, 512, .inl u16.1)), (ar, .inl (tr, 8, .inl u16.2))]) hP hD [2, 1, 0] [] rfl rfl (by decide) (by decide) hk1 hFc hP1 hD1
      have hK := (hK.sub (tys' := []) [] rfl).app hK1
      generalize H1 = H at hP hS ⊢
      have hP : va_P (dC, dI) vwCl [(h0, .inr (8, [.int 0, .ref am, .ref ad, .ref ab, .int 0, .int 224, .ref ar, .int 0, .int 0, .int 0, .int 0, .int 0, .int 0, .ref az, .ref ae, .ref ao, .ref an, .ref au, .int 0, .int 0, .int 0, .ref ap, .ref aw, .int 0, .int 0, .int 0, .int 0, .int 0])), (am, .inl (tm, 512, .inl u16.1)), (ar, .inl (tr, 8, .inl u16.2))] H := hP
      have hD : va_D A [(h0, .inr (8, [.int 0, .ref am, .ref ad, .ref ab, .int 0, .int 224, .ref ar, .int 0, .int 0, .int 0, .int 0, .int 0, .int 0, .ref az, .ref ae, .ref ao, .ref an, .ref au, .int 0, .int 0, .int 0, .ref ap, .ref aw, .int 0, .int 0, .int 0, .int 0, .int 0])), (am, .inl (tm, 512, .inl u16.1)), (ar, .inl (tr, 8, .inl u16.2))] := hD
      have hK : va_K (dC, dI) vwCl [(tm, .int), (tr, .int)] s := hK
      refine W.widen (k := 0) (n := 0) (Nat.le_of_ble_eq_true rfl) (Nat.le_of_ble_eq_true rfl) ?_
      obtain ⟨_, _, _, _, _⟩ := hw
      refine lv_aload_n hx hb dX9_trap_82 rfl (lv_at hl 4 rfl) ?_
      refine lv_iload_n hx hb dX9_trap_83 rfl (lv_at hl 2 rfl) ?_
      have hPc := hP.sub (ws' := [(h0, .inr (8, [.int 0, .ref am, .ref ad, .ref ab, .int 0, .int 224, .ref ar, .int 0, .int 0, .int 0, .int 0, .int 0, .int 0, .ref az, .ref ae, .ref ao, .ref an, .ref au, .int 0, .int 0, .int 0, .ref ap, .ref aw, .int 0, .int 0, .int 0, .int 0, .int 0])), (am, .inl (tm, 512, .inl u16.1)), (ar, .inl (tr, 8, .inl u16.2))]) [0, 1, 2] rfl
      have hDc := hD.sub (ws' := [(h0, .inr (8, [.int 0, .ref am, .ref ad, .ref ab, .int 0, .int 224, .ref ar, .int 0, .int 0, .int 0, .int 0, .int 0, .int 0, .ref az, .ref ae, .ref ao, .ref an, .ref au, .int 0, .int 0, .int 0, .ref ap, .ref aw, .int 0, .int 0, .int 0, .int 0, .int 0])), (am, .inl (tm, 512, .inl u16.1)), (ar, .inl (tr, 8, .inl u16.2))]) [0, 1, 2] (by decide) rfl
      have hKc := hK.sub (tys' := [(tm, .int), (tr, .int)]) [0, 1] rfl
      have hFc := va_free (wc := [(h0, .inr (8, [.int 0, .ref am, .ref ad, .ref ab, .int 0, .int 224, .ref ar, .int 0, .int 0, .int 0, .int 0, .int 0, .int 0, .ref az, .ref ae, .ref ao, .ref an, .ref au, .int 0, .int 0, .int 0, .ref ap, .ref aw, .int 0, .int 0, .int 0, .int 0, .int 0])), (am, .inl (tm, 512, .inl u16.1)), (ar, .inl (tr, 8, .inl u16.2))]) hD hS hA [0, 1, 2] rfl
      refine va_callv (va_runV (As := [.int 1]) (rest := []) ⟨hx, hb, hml, hown, hts⟩ (c_m_push l dC dI h0 am ad ab ar az ae ao an au ap aw tm tr u16.1 u16.2 (z - 2) 1 H.size (by first | assumption | omega | decide) (by first | assumption | omega | decide) (by first | assumption | omega | decide) (by first | assumption | omega | decide) (by first | assumption | omega | decide) (by first | assumption | omega | decide) (by first | assumption | omega | decide) (by first | assumption | omega | decide) (by first | assumption | omega | decide)) (cwV 1 hts gX9_trap_X9_push rfl rfl rfl (by decide +kernel) ⟨Nat.le_of_ble_eq_true rfl, Nat.le_of_ble_eq_true rfl⟩) ⟨fun a U g mk q => by obtain ⟨q0, q1, qP, qK, qD⟩ := q; exact ⟨q0, q1, qP, va_K.moved (u := U) (U := U.calling g mk a) (Vm.Alike.refl U.vm) qK, qD⟩, va_recv hKc hPc (ci := 8) (q0 := 0) rfl rfl, fun U hU hW => ⟨rfl, by rw [hU], by rw [hU]; exact hPc, va_K.moved hW.alike hKc, hDc.weaken (fun _ _ _ _ => trivial)⟩⟩ rfl rfl hl.1 rfl (lv_room (Nat.le_of_ble_eq_true rfl)) dX9_trap_84 ⟨Nat.le_of_ble_eq_true rfl, Nat.le_of_ble_eq_true rfl⟩) hS (fun q _ h => hFc q h) hFc (fun u18 t H1 locs ht hvm hw hB hz1 hk1 hS => ?_)
      obtain ⟨hP1, hK1, hD1⟩ := hB
      rw [ht] at hP1
      have hK1 := va_K.moved hvm.symm hK1
      try dsimp only at hw
      obtain ⟨hP, hD⟩ := va_join (wr := []) (w1 := [(h0, .inr (8, [.int 0, .ref am, .ref ad, .ref ab, .int 0, .int 224, .ref ar, .int 0, .int 0, .int 0, .int 0, .int 0, .int 0, .ref az, .ref ae, .ref ao, .ref an, .ref au, .int 0, .int 0, .int 0, .ref ap, .ref aw, .int 0, .int 0, .int 0, .int 0, .int 0])), (am, .inl (tm, 512, .inl u18.1)), (ar, .inl (tr, 8, .inl u18.2))]) hP hD [0, 1, 2] [] rfl rfl (by decide) (by decide) hk1 hFc hP1 hD1
      have hK := (hK.sub (tys' := []) [] rfl).app hK1
      generalize H1 = H at hP hS ⊢
      have hP : va_P (dC, dI) vwCl [(h0, .inr (8, [.int 0, .ref am, .ref ad, .ref ab, .int 0, .int 224, .ref ar, .int 0, .int 0, .int 0, .int 0, .int 0, .int 0, .ref az, .ref ae, .ref ao, .ref an, .ref au, .int 0, .int 0, .int 0, .ref ap, .ref aw, .int 0, .int 0, .int 0, .int 0, .int 0])), (am, .inl (tm, 512, .inl u18.1)), (ar, .inl (tr, 8, .inl u18.2))] H := hP
      have hD : va_D A [(h0, .inr (8, [.int 0, .ref am, .ref ad, .ref ab, .int 0, .int 224, .ref ar, .int 0, .int 0, .int 0, .int 0, .int 0, .int 0, .ref az, .ref ae, .ref ao, .ref an, .ref au, .int 0, .int 0, .int 0, .ref ap, .ref aw, .int 0, .int 0, .int 0, .int 0, .int 0])), (am, .inl (tm, 512, .inl u18.1)), (ar, .inl (tr, 8, .inl u18.2))] := hD
      have hK : va_K (dC, dI) vwCl [(tm, .int), (tr, .int)] s := hK
      refine W.widen (k := 0) (n := 0) (Nat.le_of_ble_eq_true rfl) (Nat.le_of_ble_eq_true rfl) ?_
      obtain ⟨_, _, _, _, _⟩ := hw
      refine lv_aload_n hx hb dX9_trap_87 rfl (lv_at hl 4 rfl) ?_
      refine lv_bipush (v := 7) hx hb dX9_trap_88 (by decide) ?_
      refine lv_iload hx hb dX9_trap_90 (lv_at hl 1 rfl) ?_
      have hPc := hP.sub (ws' := [(h0, .inr (8, [.int 0, .ref am, .ref ad, .ref ab, .int 0, .int 224, .ref ar, .int 0, .int 0, .int 0, .int 0, .int 0, .int 0, .ref az, .ref ae, .ref ao, .ref an, .ref au, .int 0, .int 0, .int 0, .ref ap, .ref aw, .int 0, .int 0, .int 0, .int 0, .int 0])), (ar, .inl (tr, 8, .inl u18.2))]) [0, 2] rfl
      have hDc := hD.sub (ws' := [(h0, .inr (8, [.int 0, .ref am, .ref ad, .ref ab, .int 0, .int 224, .ref ar, .int 0, .int 0, .int 0, .int 0, .int 0, .int 0, .ref az, .ref ae, .ref ao, .ref an, .ref au, .int 0, .int 0, .int 0, .ref ap, .ref aw, .int 0, .int 0, .int 0, .int 0, .int 0])), (ar, .inl (tr, 8, .inl u18.2))]) [0, 2] (by decide) rfl
      have hKc := hK.sub (tys' := [(tr, .int)]) [1] rfl
      have hFc := va_free (wc := [(h0, .inr (8, [.int 0, .ref am, .ref ad, .ref ab, .int 0, .int 224, .ref ar, .int 0, .int 0, .int 0, .int 0, .int 0, .int 0, .ref az, .ref ae, .ref ao, .ref an, .ref au, .int 0, .int 0, .int 0, .ref ap, .ref aw, .int 0, .int 0, .int 0, .int 0, .int 0])), (ar, .inl (tr, 8, .inl u18.2))]) hD hS hA [0, 2] rfl
      refine va_callv (va_runV (As := [.int 7, .int 1]) (rest := []) ⟨hx, hb, hml, hown, hts⟩ (c_m_put7 l dC dI h0 am ad ab ar az ae ao an au ap aw tr u18.2 ((z - 2) - 2) H.size (by first | assumption | omega | decide) (by first | assumption | omega | decide)) (cwV 2 hts gX9_trap_X9_put rfl rfl rfl (by decide +kernel) ⟨Nat.le_of_ble_eq_true rfl, Nat.le_of_ble_eq_true rfl⟩) ⟨fun a U g mk q => by obtain ⟨q0, q1, qP, qK, qD⟩ := q; exact ⟨q0, q1, qP, va_K.moved (u := U) (U := U.calling g mk a) (Vm.Alike.refl U.vm) qK, qD⟩, va_recv hKc hPc (ci := 8) (q0 := 0) rfl rfl, fun U hU hW => ⟨rfl, by rw [hU], by rw [hU]; exact hPc, va_K.moved hW.alike hKc, hDc.weaken (fun _ _ _ _ => trivial)⟩⟩ rfl rfl hl.1 rfl (lv_room (Nat.le_of_ble_eq_true rfl)) dX9_trap_92 ⟨Nat.le_of_ble_eq_true rfl, Nat.le_of_ble_eq_true rfl⟩) hS (fun q _ h => hFc q h) hFc (fun u20 t H1 locs ht hvm hw hB hz1 hk1 hS => ?_)
      obtain ⟨hP1, hK1, hD1⟩ := hB
      rw [ht] at hP1
      have hK1 := va_K.moved hvm.symm hK1
      try dsimp only at hw
      obtain ⟨hP, hD⟩ := va_join (wr := [(am, .inl (tm, 512, .inl u18.1))]) (w1 := [(h0, .inr (8, [.int 0, .ref am, .ref ad, .ref ab, .int 0, .int 224, .ref ar, .int 0, .int 0, .int 0, .int 0, .int 0, .int 0, .ref az, .ref ae, .ref ao, .ref an, .ref au, .int 0, .int 0, .int 0, .ref ap, .ref aw, .int 0, .int 0, .int 0, .int 0, .int 0])), (ar, .inl (tr, 8, .inl u20))]) hP hD [0, 2] [1] rfl rfl (by decide) (by decide) hk1 hFc hP1 hD1
      have hK := (hK.sub (tys' := [(tm, .int)]) [0] rfl).app hK1
      generalize H1 = H at hP hS ⊢
      have hP : va_P (dC, dI) vwCl [(am, .inl (tm, 512, .inl u18.1)), (h0, .inr (8, [.int 0, .ref am, .ref ad, .ref ab, .int 0, .int 224, .ref ar, .int 0, .int 0, .int 0, .int 0, .int 0, .int 0, .ref az, .ref ae, .ref ao, .ref an, .ref au, .int 0, .int 0, .int 0, .ref ap, .ref aw, .int 0, .int 0, .int 0, .int 0, .int 0])), (ar, .inl (tr, 8, .inl u20))] H := hP
      have hD : va_D A [(am, .inl (tm, 512, .inl u18.1)), (h0, .inr (8, [.int 0, .ref am, .ref ad, .ref ab, .int 0, .int 224, .ref ar, .int 0, .int 0, .int 0, .int 0, .int 0, .int 0, .ref az, .ref ae, .ref ao, .ref an, .ref au, .int 0, .int 0, .int 0, .ref ap, .ref aw, .int 0, .int 0, .int 0, .int 0, .int 0])), (ar, .inl (tr, 8, .inl u20))] := hD
      have hK : va_K (dC, dI) vwCl [(tm, .int), (tr, .int)] s := hK
      refine W.widen (k := 0) (n := 0) (Nat.le_of_ble_eq_true rfl) (Nat.le_of_ble_eq_true rfl) ?_
      obtain ⟨_, _⟩ := hw
      refine lv_aload_n hx hb dX9_trap_95 rfl (lv_at hl 4 rfl) ?_
      refine va_get (D := (dC, dI)) (ci := 8) (v := .int 0) (C := RX9) (T := TX9) (N := 28) hx hb hts (by decide +kernel) hown hK hP 1 rfl rfl 10 (by decide) (hts (.fieldLink RX9 87 "UnibusMachineModel" "wrong" "I") (by decide +kernel)) (fun _ h9 => h9) rfl dX9_trap_96 ?_
      refine lv_if_le (tgt := 107) hx hb dX9_trap_99 (by decide) (fun c21 => ?_) (fun c21 => ?_)
      · skip
        refine lv_aload_n hx hb dX9_trap_107 rfl (lv_at hl 4 rfl) ?_
        refine lv_iconst (v := 0) hx hb dX9_trap_108 (by decide) ?_
        refine va_put (D := (dC, dI)) (ci := 8) (v := .int 0) (ty := .int) (C := RX9) (T := TX9) (N := 28) hx hb hts (by decide +kernel) tyX9 tyX9_ok nmX9 hown hK hP hD hS 1 rfl rfl 10 (by decide) (hts (.fieldLink RX9 87 "UnibusMachineModel" "wrong" "I") (by decide +kernel)) (fun _ h9 => h9) rfl (by decide +kernel) rfl rfl (Nat.le_of_ble_eq_true rfl) dX9_trap_109 (fun H locs hP hD hS => ?_)
        have hP : va_P (dC, dI) vwCl [(am, .inl (tm, 512, .inl u18.1)), (h0, .inr (8, [.int 0, .ref am, .ref ad, .ref ab, .int 0, .int 224, .ref ar, .int 0, .int 0, .int 0, .int 0, .int 0, .int 0, .ref az, .ref ae, .ref ao, .ref an, .ref au, .int 0, .int 0, .int 0, .ref ap, .ref aw, .int 0, .int 0, .int 0, .int 0, .int 0])), (ar, .inl (tr, 8, .inl u20))] H := hP
        have hD : va_D A [(am, .inl (tm, 512, .inl u18.1)), (h0, .inr (8, [.int 0, .ref am, .ref ad, .ref ab, .int 0, .int 224, .ref ar, .int 0, .int 0, .int 0, .int 0, .int 0, .int 0, .ref az, .ref ae, .ref ao, .ref an, .ref au, .int 0, .int 0, .int 0, .ref ap, .ref aw, .int 0, .int 0, .int 0, .int 0, .int 0])), (ar, .inl (tr, 8, .inl u20))] := hD
        refine lv_aload_n hx hb dX9_trap_112 rfl (lv_at hl 4 rfl) ?_
        have hPc := hP.sub (ws' := [(h0, .inr (8, [.int 0, .ref am, .ref ad, .ref ab, .int 0, .int 224, .ref ar, .int 0, .int 0, .int 0, .int 0, .int 0, .int 0, .ref az, .ref ae, .ref ao, .ref an, .ref au, .int 0, .int 0, .int 0, .ref ap, .ref aw, .int 0, .int 0, .int 0, .int 0, .int 0]))]) [1] rfl
        have hDc := hD.sub (ws' := [(h0, .inr (8, [.int 0, .ref am, .ref ad, .ref ab, .int 0, .int 224, .ref ar, .int 0, .int 0, .int 0, .int 0, .int 0, .int 0, .ref az, .ref ae, .ref ao, .ref an, .ref au, .int 0, .int 0, .int 0, .ref ap, .ref aw, .int 0, .int 0, .int 0, .int 0, .int 0]))]) [1] (by decide) rfl
        have hKc := hK.sub (tys' := []) [] rfl
        have hFc := va_free (wc := [(h0, .inr (8, [.int 0, .ref am, .ref ad, .ref ab, .int 0, .int 224, .ref ar, .int 0, .int 0, .int 0, .int 0, .int 0, .int 0, .ref az, .ref ae, .ref ao, .ref an, .ref au, .int 0, .int 0, .int 0, .ref ap, .ref aw, .int 0, .int 0, .int 0, .int 0, .int 0]))]) hD hS hA [1] rfl
        refine va_callv (va_runV (As := []) (rest := []) ⟨hx, hb, hml, hown, hts⟩ (c_m_settle l dC dI h0 am ad ab ar az ae ao an au ap aw H.size) (cwV 0 hts gX9_trap_X9_settle rfl rfl rfl (by decide +kernel) ⟨Nat.le_of_ble_eq_true rfl, Nat.le_of_ble_eq_true rfl⟩) ⟨fun a U g mk q => by obtain ⟨q0, q1, qP, qK, qD⟩ := q; exact ⟨q0, q1, qP, va_K.moved (u := U) (U := U.calling g mk a) (Vm.Alike.refl U.vm) qK, qD⟩, va_recv hKc hPc (ci := 8) (q0 := 0) rfl rfl, fun U hU hW => ⟨rfl, by rw [hU], by rw [hU]; exact hPc, va_K.moved hW.alike hKc, hDc.weaken (fun _ _ _ _ => trivial)⟩⟩ rfl rfl hl.1 rfl (lv_room (Nat.le_of_ble_eq_true rfl)) dX9_trap_113 ⟨Nat.le_of_ble_eq_true rfl, Nat.le_of_ble_eq_true rfl⟩) hS (fun q _ h => hFc q h) hFc (fun u23 t H1 locs ht hvm hw hB hz1 hk1 hS => ?_)
        obtain ⟨hP1, hK1, hD1⟩ := hB
        rw [ht] at hP1
        have hK1 := va_K.moved hvm.symm hK1
        try dsimp only at hw
        obtain ⟨hP, hD⟩ := va_join (wr := [(am, .inl (tm, 512, .inl u18.1)), (ar, .inl (tr, 8, .inl u20))]) (w1 := [(h0, .inr (8, [.int 0, .ref am, .ref ad, .ref ab, .int 0, .int 224, .ref ar, .int 0, .int 0, .int 0, .int 0, .int 0, .int 0, .ref az, .ref ae, .ref ao, .ref an, .ref au, .int 0, .int 0, .int 0, .ref ap, .ref aw, .int 0, .int 0, .int 0, .int 0, .int 0]))]) hP hD [1] [0, 2] rfl rfl (by decide) (by decide) hk1 hFc hP1 hD1
        have hK := (hK.sub (tys' := [(tm, .int), (tr, .int)]) [0, 1] rfl).app hK1
        generalize H1 = H at hP hS ⊢
        have hP : va_P (dC, dI) vwCl [(am, .inl (tm, 512, .inl u18.1)), (ar, .inl (tr, 8, .inl u20)), (h0, .inr (8, [.int 0, .ref am, .ref ad, .ref ab, .int 0, .int 224, .ref ar, .int 0, .int 0, .int 0, .int 0, .int 0, .int 0, .ref az, .ref ae, .ref ao, .ref an, .ref au, .int 0, .int 0, .int 0, .ref ap, .ref aw, .int 0, .int 0, .int 0, .int 0, .int 0]))] H := hP
        have hD : va_D A [(am, .inl (tm, 512, .inl u18.1)), (ar, .inl (tr, 8, .inl u20)), (h0, .inr (8, [.int 0, .ref am, .ref ad, .ref ab, .int 0, .int 224, .ref ar, .int 0, .int 0, .int 0, .int 0, .int 0, .int 0, .ref az, .ref ae, .ref ao, .ref an, .ref au, .int 0, .int 0, .int 0, .ref ap, .ref aw, .int 0, .int 0, .int 0, .int 0, .int 0]))] := hD
        have hK : va_K (dC, dI) vwCl [(tm, .int), (tr, .int)] s := hK
        refine W.widen (k := 0) (n := 0) (Nat.le_of_ble_eq_true rfl) (Nat.le_of_ble_eq_true rfl) ?_
        have hx24 : u18.1 (2 : Int32).toNatClampNeg = 1 := by first | assumption | omega
        have hx25 : u18.1 (3 : Int32).toNatClampNeg = 224 := by first | assumption | omega
        have hx26 : ∀ i : Nat, 0 ≤ (u18.1 i).toInt := by first | assumption | omega
        have hx27 : u20 (7 : Int32).toNatClampNeg = 1 := by first | assumption | omega
        have hx28 : (u20 (6 : Int32).toNatClampNeg).toInt = z - 4 := by first | assumption | omega
        have hP9 := hP.sub (ws' := [(h0, .inr (8, [.int 0, .ref am, .ref ad, .ref ab, .int 0, .int 224, .ref ar, .int 0, .int 0, .int 0, .int 0, .int 0, .int 0, .ref az, .ref ae, .ref ao, .ref an, .ref au, .int 0, .int 0, .int 0, .ref ap, .ref aw, .int 0, .int 0, .int 0, .int 0, .int 0])), (am, .inl (tm, 512, .inl u18.1)), (ar, .inl (tr, 8, .inl u20))]) [2, 0, 1] rfl
        have hD9 := hD.sub (ws' := [(h0, .inr (8, [.int 0, .ref am, .ref ad, .ref ab, .int 0, .int 224, .ref ar, .int 0, .int 0, .int 0, .int 0, .int 0, .int 0, .ref az, .ref ae, .ref ao, .ref an, .ref au, .int 0, .int 0, .int 0, .ref ap, .ref aw, .int 0, .int 0, .int 0, .int 0, .int 0])), (am, .inl (tm, 512, .inl u18.1)), (ar, .inl (tr, 8, .inl u20))]) [2, 0, 1] (by decide) rfl
        have hK9 := hK.sub (tys' := [(tm, .int), (tr, .int)]) [0, 1] rfl
        exact W.vret hx hb hr (fun t ht hW => ⟨⟨(u18.1, u20), rfl, ⟨hx24, hx25, hx26, hx27, hx28⟩, by rw [ht]; exact hP9, va_K.moved hW.alike hK9, hD9⟩, hS.F ht⟩) hS.2.2 dX9_trap_116
      · exact absurd c21 (by decide)
    · exact absurd c9 (by decide)
set_option maxHeartbeats 4000000 in
set_option maxRecDepth 100000 in
theorem c_m_goOn (l : Launch) (dC : Nat → ClassId) (dI : Nat → Nat → Nat) (h0 : Nat) (am : Nat) (ad : Nat) (ab : Nat) (ar : Nat) (az : Nat) (ae : Nat) (ao : Nat) (an : Nat) (au : Nat) (ap : Nat) (aw : Nat) (tz : ClassId) (te : ClassId) (to : ClassId) (tn : ClassId) (tu : ClassId) (bo : Nat → Int32) (wa : Nat → Int32) (sz : Nat) : Met l yX9_goOn wsX9_goOn ({ frames := 0, cells := 0, slots := 0, locals := 0 } : Room) (va_Pc [.ref h0] (fun U => U.heap.size = sz ∧ va_P (dC, dI) vwCl [(h0, .inr (8, [.int 0, .ref am, .ref ad, .ref ab, .int 0, .int 224, .ref ar, .int 0, .int 0, .int 0, .int 0, .int 0, .int 0, .ref az, .ref ae, .ref ao, .ref an, .ref au, .int 0, .int 0, .int 0, .ref ap, .ref aw, .int 0, .int 0, .int 0, .int 0, .int 0])), (az, .inl (tz, 3, .inl rdy)), (ae, .inl (te, 3, .inl (fun _ => 0))), (ao, .inl (to, 3, .inl bo)), (an, .inl (tn, 3, .inl wa)), (au, .inl (tu, 3, .inl (fun _ => 0)))] U.heap ∧ va_K (dC, dI) vwCl [(tz, .boolean), (te, .boolean), (to, .boolean), (tn, .boolean), (tu, .int)] U ∧ va_D (fun _ => True) [(h0, .inr (8, [.int 0, .ref am, .ref ad, .ref ab, .int 0, .int 224, .ref ar, .int 0, .int 0, .int 0, .int 0, .int 0, .int 0, .ref az, .ref ae, .ref ao, .ref an, .ref au, .int 0, .int 0, .int 0, .ref ap, .ref aw, .int 0, .int 0, .int 0, .int 0, .int 0])), (az, .inl (tz, 3, .inl rdy)), (ae, .inl (te, 3, .inl (fun _ => 0))), (ao, .inl (to, 3, .inl bo)), (an, .inl (tn, 3, .inl wa)), (au, .inl (tu, 3, .inl (fun _ => 0)))])) (va_Qv (fun (u : (Nat → Int32) × (Nat → Int32)) => True) (fun (u : (Nat → Int32) × (Nat → Int32)) (t : State) => va_P (dC, dI) vwCl [(h0, .inr (8, [.int 0, .ref am, .ref ad, .ref ab, .int 0, .int 224, .ref ar, .int 0, .int 0, .int 0, .int 0, .int 0, .int 0, .ref az, .ref ae, .ref ao, .ref an, .ref au, .int 0, .int 0, .int 0, .ref ap, .ref aw, .int 0, .int 0, .int 0, .int 0, .int 0])), (az, .inl (tz, 3, .inl rdy)), (ae, .inl (te, 3, .inl (fun _ => 0))), (ao, .inl (to, 3, .inl u.1)), (an, .inl (tn, 3, .inl u.2)), (au, .inl (tu, 3, .inl (fun _ => 0)))] t.heap ∧ va_K (dC, dI) vwCl [(tz, .boolean), (te, .boolean), (to, .boolean), (tn, .boolean), (tu, .int)] t ∧ va_D (va_A [(h0, .inr (8, [.int 0, .ref am, .ref ad, .ref ab, .int 0, .int 224, .ref ar, .int 0, .int 0, .int 0, .int 0, .int 0, .int 0, .ref az, .ref ae, .ref ao, .ref an, .ref au, .int 0, .int 0, .int 0, .ref ap, .ref aw, .int 0, .int 0, .int 0, .int 0, .int 0])), (az, .inl (tz, 3, .inl rdy)), (ae, .inl (te, 3, .inl (fun _ => 0))), (ao, .inl (to, 3, .inl bo)), (an, .inl (tn, 3, .inl wa)), (au, .inl (tu, 3, .inl (fun _ => 0)))] sz) [(h0, .inr (8, [.int 0, .ref am, .ref ad, .ref ab, .int 0, .int 224, .ref ar, .int 0, .int 0, .int 0, .int 0, .int 0, .int 0, .ref az, .ref ae, .ref ao, .ref an, .ref au, .int 0, .int 0, .int 0, .ref ap, .ref aw, .int 0, .int 0, .int 0, .int 0, .int 0])), (az, .inl (tz, 3, .inl rdy)), (ae, .inl (te, 3, .inl (fun _ => 0))), (ao, .inl (to, 3, .inl u.1)), (an, .inl (tn, 3, .inl u.2)), (au, .inl (tu, 3, .inl (fun _ => 0)))]) (va_A [(h0, .inr (8, [.int 0, .ref am, .ref ad, .ref ab, .int 0, .int 224, .ref ar, .int 0, .int 0, .int 0, .int 0, .int 0, .int 0, .ref az, .ref ae, .ref ao, .ref an, .ref au, .int 0, .int 0, .int 0, .ref ap, .ref aw, .int 0, .int 0, .int 0, .int 0, .int 0])), (az, .inl (tz, 3, .inl rdy)), (ae, .inl (te, 3, .inl (fun _ => 0))), (ao, .inl (to, 3, .inl bo)), (an, .inl (tn, 3, .inl wa)), (au, .inl (tu, 3, .inl (fun _ => 0)))] sz)) 0 0 (va_A [(h0, .inr (8, [.int 0, .ref am, .ref ad, .ref ab, .int 0, .int 224, .ref ar, .int 0, .int 0, .int 0, .int 0, .int 0, .int 0, .ref az, .ref ae, .ref ao, .ref an, .ref au, .int 0, .int 0, .int 0, .ref ap, .ref aw, .int 0, .int 0, .int 0, .int 0, .int 0])), (az, .inl (tz, 3, .inl rdy)), (ae, .inl (te, 3, .inl (fun _ => 0))), (ao, .inl (to, 3, .inl bo)), (an, .inl (tn, 3, .inl wa)), (au, .inl (tu, 3, .inl (fun _ => 0)))] sz) := by
  refine Met.ofW (cc := cX9_goOn) (maxL := 5) (ret := none) (by decide) rfl ?_
  intro p e s m args below meth c s₁ B hml hv
  obtain ⟨rfl, hsz, hP, hK, hD0⟩ := hv
  have hx := B.exec
  have hb := B.bytes
  have hr := B.returns
  have hts := atoms_spec (ws := wsX9_goOn) B.pre
  have hown : s.vm.findClass RX9 = some m.cls := findClass_of_methodNamed B.named
  have hlocks := B.notSynchronized
  have hD := hD0.self (sz := sz)
  generalize hAe : va_A [(h0, .inr (8, [.int 0, .ref am, .ref ad, .ref ab, .int 0, .int 224, .ref ar, .int 0, .int 0, .int 0, .int 0, .int 0, .int 0, .ref az, .ref ae, .ref ao, .ref an, .ref au, .int 0, .int 0, .int 0, .ref ap, .ref aw, .int 0, .int 0, .int 0, .int 0, .int 0])), (az, .inl (tz, 3, .inl rdy)), (ae, .inl (te, 3, .inl (fun _ => 0))), (ao, .inl (to, 3, .inl bo)), (an, .inl (tn, 3, .inl wa)), (au, .inl (tu, 3, .inl (fun _ => 0)))] sz = A at hD ⊢
  have hA : ∀ q : Nat, s.heap.size ≤ q → A q := fun q h => by rw [← hAe]; exact Or.inr (by omega)
  have hS0 : ∀ G : Heap, s.heap = G → va_S A s.heap G [] := fun G h => by subst h; exact va_S.rf
  generalize hHe : s.heap = H at hP ⊢
  have hS := hS0 H hHe
  have hP : va_P (dC, dI) vwCl [(h0, .inr (8, [.int 0, .ref am, .ref ad, .ref ab, .int 0, .int 224, .ref ar, .int 0, .int 0, .int 0, .int 0, .int 0, .int 0, .ref az, .ref ae, .ref ao, .ref an, .ref au, .int 0, .int 0, .int 0, .ref ap, .ref aw, .int 0, .int 0, .int 0, .int 0, .int 0])), (az, .inl (tz, 3, .inl rdy)), (ae, .inl (te, 3, .inl (fun _ => 0))), (ao, .inl (to, 3, .inl bo)), (an, .inl (tn, 3, .inl wa)), (au, .inl (tu, 3, .inl (fun _ => 0)))] H := hP
  have hD : va_D A [(h0, .inr (8, [.int 0, .ref am, .ref ad, .ref ab, .int 0, .int 224, .ref ar, .int 0, .int 0, .int 0, .int 0, .int 0, .int 0, .ref az, .ref ae, .ref ao, .ref an, .ref au, .int 0, .int 0, .int 0, .ref ap, .ref aw, .int 0, .int 0, .int 0, .int 0, .int 0])), (az, .inl (tz, 3, .inl rdy)), (ae, .inl (te, 3, .inl (fun _ => 0))), (ao, .inl (to, 3, .inl bo)), (an, .inl (tn, 3, .inl wa)), (au, .inl (tu, 3, .inl (fun _ => 0)))] := hD
  have hK : va_K (dC, dI) vwCl [(tz, .boolean), (te, .boolean), (to, .boolean), (tn, .boolean), (tu, .int)] s := hK
  have hl := lv_entry ([.ref h0]) (n := 5) (Nat.le_of_ble_eq_true rfl)
  rw [lg_entry_eq]
  generalize (lg_sl ([.ref h0]) ++ List.replicate (5 - (lg_sl ([.ref h0])).length) Slot.unset).toArray = ls at hl ⊢
  have hl : lv_has ls 5 [(0, .ref h0)] := hl
  refine lv_iconst (v := 0) hx hb dX9_goOn_0 (by decide) ?_
  refine lv_istore_n (lv' := [(1, .int 0), (0, .ref h0)]) hx hb dX9_goOn_1 rfl hl (by decide) rfl (fun ls hl => ?_)
  refine lv_iload_n hx hb dX9_goOn_2 rfl (lv_at hl 0 rfl) ?_
  refine lv_iconst (v := 3) hx hb dX9_goOn_3 (by decide) ?_
  refine lv_icmp_ge (tgt := 46) hx hb dX9_goOn_4 (by decide) (fun c1 => ?_) (fun c1 => ?_)
  · exact absurd c1 (by decide)
  · skip
    refine lv_aload_n hx hb dX9_goOn_7 rfl (lv_at hl 1 rfl) ?_
    refine va_get (D := (dC, dI)) (ci := 8) (v := .ref au) (C := RX9) (T := TX9) (N := 28) hx hb hts (by decide +kernel) hown hK hP 0 rfl rfl 17 (by decide) (hts (.fieldLink RX9 39 "UnibusMachineModel" "busy" "[I") (by decide +kernel)) (fun _ h9 => h9) rfl dX9_goOn_8 ?_
    refine lv_iload_n hx hb dX9_goOn_11 rfl (lv_at hl 0 rfl) ?_
    refine va_iald (D := (dC, dI)) hx hb hK hP 5 4 rfl rfl (vp_in_iff.mpr (by decide)) dX9_goOn_12 ?_
    refine lv_if_le (tgt := 40) hx hb dX9_goOn_13 (by decide) (fun c2 => ?_) (fun c2 => ?_)
    · skip
      refine lv_iinc (v := 1) (lv' := [(1, .int 1), (0, .ref h0)]) hx hb dX9_goOn_40 hl (k := 0) rfl (by decide) (by decide) rfl (fun ls hl => ?_)
      refine lv_goto (tgt := 2) hx hb dX9_goOn_43 (by decide) ?_
      refine lv_iload_n hx hb dX9_goOn_2 rfl (lv_at hl 0 rfl) ?_
      refine lv_iconst (v := 3) hx hb dX9_goOn_3 (by decide) ?_
      refine lv_icmp_ge (tgt := 46) hx hb dX9_goOn_4 (by decide) (fun c3 => ?_) (fun c3 => ?_)
      · exact absurd c3 (by decide)
      · skip
        refine lv_aload_n hx hb dX9_goOn_7 rfl (lv_at hl 1 rfl) ?_
        refine va_get (D := (dC, dI)) (ci := 8) (v := .ref au) (C := RX9) (T := TX9) (N := 28) hx hb hts (by decide +kernel) hown hK hP 0 rfl rfl 17 (by decide) (hts (.fieldLink RX9 39 "UnibusMachineModel" "busy" "[I") (by decide +kernel)) (fun _ h9 => h9) rfl dX9_goOn_8 ?_
        refine lv_iload_n hx hb dX9_goOn_11 rfl (lv_at hl 0 rfl) ?_
        refine va_iald (D := (dC, dI)) hx hb hK hP 5 4 rfl rfl (vp_in_iff.mpr (by decide)) dX9_goOn_12 ?_
        refine lv_if_le (tgt := 40) hx hb dX9_goOn_13 (by decide) (fun c4 => ?_) (fun c4 => ?_)
        · skip
          refine lv_iinc (v := 2) (lv' := [(1, .int 2), (0, .ref h0)]) hx hb dX9_goOn_40 hl (k := 0) rfl (by decide) (by decide) rfl (fun ls hl => ?_)
          refine lv_goto (tgt := 2) hx hb dX9_goOn_43 (by decide) ?_
          refine lv_iload_n hx hb dX9_goOn_2 rfl (lv_at hl 0 rfl) ?_
          refine lv_iconst (v := 3) hx hb dX9_goOn_3 (by decide) ?_
          refine lv_icmp_ge (tgt := 46) hx hb dX9_goOn_4 (by decide) (fun c5 => ?_) (fun c5 => ?_)
          · exact absurd c5 (by decide)
          · skip
            refine lv_aload_n hx hb dX9_goOn_7 rfl (lv_at hl 1 rfl) ?_
            refine va_get (D := (dC, dI)) (ci := 8) (v := .ref au) (C := RX9) (T := TX9) (N := 28) hx hb hts (by decide +kernel) hown hK hP 0 rfl rfl 17 (by decide) (hts (.fieldLink RX9 39 "UnibusMachineModel" "busy" "[I") (by decide +kernel)) (fun _ h9 => h9) rfl dX9_goOn_8 ?_
            refine lv_iload_n hx hb dX9_goOn_11 rfl (lv_at hl 0 rfl) ?_
            refine va_iald (D := (dC, dI)) hx hb hK hP 5 4 rfl rfl (vp_in_iff.mpr (by decide)) dX9_goOn_12 ?_
            refine lv_if_le (tgt := 40) hx hb dX9_goOn_13 (by decide) (fun c6 => ?_) (fun c6 => ?_)
            · skip
              refine lv_iinc (v := 3) (lv' := [(1, .int 3), (0, .ref h0)]) hx hb dX9_goOn_40 hl (k := 0) rfl (by decide) (by decide) rfl (fun ls hl => ?_)
              refine lv_goto (tgt := 2) hx hb dX9_goOn_43 (by decide) ?_
              refine lv_iload_n hx hb dX9_goOn_2 rfl (lv_at hl 0 rfl) ?_
              refine lv_iconst (v := 3) hx hb dX9_goOn_3 (by decide) ?_
              refine lv_icmp_ge (tgt := 46) hx hb dX9_goOn_4 (by decide) (fun c7 => ?_) (fun c7 => ?_)
              · skip
                refine lv_iconst (v := (-1)) hx hb dX9_goOn_46 (by decide) ?_
                refine lv_istore_n (lv' := [(1, .int (-1)), (0, .ref h0)]) hx hb dX9_goOn_47 rfl hl (by decide) rfl (fun ls hl => ?_)
                refine lv_iconst (v := 2) hx hb dX9_goOn_48 (by decide) ?_
                refine lv_istore_n (lv' := [(2, .int 2), (1, .int (-1)), (0, .ref h0)]) hx hb dX9_goOn_49 rfl hl (by decide) rfl (fun ls hl => ?_)
                refine lv_iload_n hx hb dX9_goOn_50 rfl (lv_at hl 0 rfl) ?_
                refine lv_if_lt (tgt := 161) hx hb dX9_goOn_51 (by decide) (fun c8 => ?_) (fun c8 => ?_)
                · exact absurd c8 (by decide)
                · skip
                  refine lv_aload_n hx hb dX9_goOn_54 rfl (lv_at hl 2 rfl) ?_
                  refine va_get (D := (dC, dI)) (ci := 8) (v := .ref az) (C := RX9) (T := TX9) (N := 28) hx hb hts (by decide +kernel) hown hK hP 0 rfl rfl 13 (by decide) (hts (.fieldLink RX9 26 "UnibusMachineModel" "ready" "[Z") (by decide +kernel)) (fun _ h9 => h9) rfl dX9_goOn_55 ?_
                  refine lv_iload_n hx hb dX9_goOn_58 rfl (lv_at hl 0 rfl) ?_
                  refine va_zald (D := (dC, dI)) hx hb hK hP 1 0 rfl rfl (vp_in_iff.mpr (by decide)) dX9_goOn_59 ?_
                  refine lv_topi (fun y9 ey9 => ?_)
                  obtain rfl : y9 = 1 := by rw [ey9]; decide +kernel
                  refine lv_if_eq (tgt := 76) hx hb dX9_goOn_60 (by decide) (fun c10 => ?_) (fun c10 => ?_)
                  · exact absurd c10 (by decide)
                  · skip
                    refine lv_aload_n hx hb dX9_goOn_63 rfl (lv_at hl 2 rfl) ?_
                    refine va_get (D := (dC, dI)) (ci := 8) (v := .ref ae) (C := RX9) (T := TX9) (N := 28) hx hb hts (by decide +kernel) hown hK hP 0 rfl rfl 14 (by decide) (hts (.fieldLink RX9 30 "UnibusMachineModel" "enabled" "[Z") (by decide +kernel)) (fun _ h9 => h9) rfl dX9_goOn_64 ?_
                    refine lv_iload_n hx hb dX9_goOn_67 rfl (lv_at hl 0 rfl) ?_
                    refine va_zald (D := (dC, dI)) hx hb hK hP 2 1 rfl rfl (vp_in_iff.mpr (by decide)) dX9_goOn_68 ?_
                    refine lv_if_eq (tgt := 76) hx hb dX9_goOn_69 (by decide) (fun c11 => ?_) (fun c11 => ?_)
                    · skip
                      refine lv_iconst (v := 0) hx hb dX9_goOn_76 (by decide) ?_
                      refine lv_istore_n (lv' := [(3, .int 0), (2, .int 2), (1, .int (-1)), (0, .ref h0)]) hx hb dX9_goOn_77 rfl hl (by decide) rfl (fun ls hl => ?_)
                      refine lv_aload_n hx hb dX9_goOn_78 rfl (lv_at hl 3 rfl) ?_
                      refine va_get (D := (dC, dI)) (ci := 8) (v := .ref an) (C := RX9) (T := TX9) (N := 28) hx hb hts (by decide +kernel) hown hK hP 0 rfl rfl 16 (by decide) (hts (.fieldLink RX9 36 "UnibusMachineModel" "wants" "[Z") (by decide +kernel)) (fun _ h9 => h9) rfl dX9_goOn_79 ?_
                      refine lv_iload_n hx hb dX9_goOn_82 rfl (lv_at hl 1 rfl) ?_
                      refine lv_iload_n hx hb dX9_goOn_83 rfl (lv_at hl 0 rfl) ?_
                      refine lv_if_eq (tgt := 109) hx hb dX9_goOn_84 (by decide) (fun c12 => ?_) (fun c12 => ?_)
                      · skip
                        refine lv_iconst (v := 0) hx hb dX9_goOn_109 (by decide) ?_
                        refine va_zast (D := (dC, dI)) hx hb hK hP hD hS 4 3 rfl rfl (vp_in_iff.mpr (by decide)) dX9_goOn_110 (fun H locs hP hD hS => ?_)
                        have hP : va_P (dC, dI) vwCl [(h0, .inr (8, [.int 0, .ref am, .ref ad, .ref ab, .int 0, .int 224, .ref ar, .int 0, .int 0, .int 0, .int 0, .int 0, .int 0, .ref az, .ref ae, .ref ao, .ref an, .ref au, .int 0, .int 0, .int 0, .ref ap, .ref aw, .int 0, .int 0, .int 0, .int 0, .int 0])), (az, .inl (tz, 3, .inl rdy)), (ae, .inl (te, 3, .inl (fun _ => 0))), (ao, .inl (to, 3, .inl bo)), (an, .inl (tn, 3, .inl (upd wa (2 : Int32).toNatClampNeg (vp_nar .boolean 0)))), (au, .inl (tu, 3, .inl (fun _ => 0)))] H := hP
                        have hD : va_D A [(h0, .inr (8, [.int 0, .ref am, .ref ad, .ref ab, .int 0, .int 224, .ref ar, .int 0, .int 0, .int 0, .int 0, .int 0, .int 0, .ref az, .ref ae, .ref ao, .ref an, .ref au, .int 0, .int 0, .int 0, .ref ap, .ref aw, .int 0, .int 0, .int 0, .int 0, .int 0])), (az, .inl (tz, 3, .inl rdy)), (ae, .inl (te, 3, .inl (fun _ => 0))), (ao, .inl (to, 3, .inl bo)), (an, .inl (tn, 3, .inl (upd wa (2 : Int32).toNatClampNeg (vp_nar .boolean 0)))), (au, .inl (tu, 3, .inl (fun _ => 0)))] := hD
                        obtain ⟨f13, hf13⟩ : ∃ z : Nat → Int32, z = upd wa (2 : Int32).toNatClampNeg (vp_nar .boolean 0) := ⟨_, rfl⟩
                        rw [← hf13] at hP hD
                        have hf13_2 : f13 (2 : Int32).toNatClampNeg = 0 := by rw [hf13, pk_us]; decide
                        have hP : va_P (dC, dI) vwCl [(h0, .inr (8, [.int 0, .ref am, .ref ad, .ref ab, .int 0, .int 224, .ref ar, .int 0, .int 0, .int 0, .int 0, .int 0, .int 0, .ref az, .ref ae, .ref ao, .ref an, .ref au, .int 0, .int 0, .int 0, .ref ap, .ref aw, .int 0, .int 0, .int 0, .int 0, .int 0])), (az, .inl (tz, 3, .inl rdy)), (ae, .inl (te, 3, .inl (fun _ => 0))), (ao, .inl (to, 3, .inl bo)), (an, .inl (tn, 3, .inl f13)), (au, .inl (tu, 3, .inl (fun _ => 0)))] H := hP
                        have hD : va_D A [(h0, .inr (8, [.int 0, .ref am, .ref ad, .ref ab, .int 0, .int 224, .ref ar, .int 0, .int 0, .int 0, .int 0, .int 0, .int 0, .ref az, .ref ae, .ref ao, .ref an, .ref au, .int 0, .int 0, .int 0, .ref ap, .ref aw, .int 0, .int 0, .int 0, .int 0, .int 0])), (az, .inl (tz, 3, .inl rdy)), (ae, .inl (te, 3, .inl (fun _ => 0))), (ao, .inl (to, 3, .inl bo)), (an, .inl (tn, 3, .inl f13)), (au, .inl (tu, 3, .inl (fun _ => 0)))] := hD
                        refine lv_aload_n hx hb dX9_goOn_111 rfl (lv_at hl 3 rfl) ?_
                        refine va_get (D := (dC, dI)) (ci := 8) (v := .ref ao) (C := RX9) (T := TX9) (N := 28) hx hb hts (by decide +kernel) hown hK hP 0 rfl rfl 15 (by decide) (hts (.fieldLink RX9 33 "UnibusMachineModel" "both" "[Z") (by decide +kernel)) (fun _ h9 => h9) rfl dX9_goOn_112 ?_
                        refine lv_iload_n hx hb dX9_goOn_115 rfl (lv_at hl 1 rfl) ?_
                        refine lv_iload_n hx hb dX9_goOn_116 rfl (lv_at hl 0 rfl) ?_
                        refine va_zast (D := (dC, dI)) hx hb hK hP hD hS 3 2 rfl rfl (vp_in_iff.mpr (by decide)) dX9_goOn_117 (fun H locs hP hD hS => ?_)
                        have hP : va_P (dC, dI) vwCl [(h0, .inr (8, [.int 0, .ref am, .ref ad, .ref ab, .int 0, .int 224, .ref ar, .int 0, .int 0, .int 0, .int 0, .int 0, .int 0, .ref az, .ref ae, .ref ao, .ref an, .ref au, .int 0, .int 0, .int 0, .ref ap, .ref aw, .int 0, .int 0, .int 0, .int 0, .int 0])), (az, .inl (tz, 3, .inl rdy)), (ae, .inl (te, 3, .inl (fun _ => 0))), (ao, .inl (to, 3, .inl (upd bo (2 : Int32).toNatClampNeg (vp_nar .boolean 0)))), (an, .inl (tn, 3, .inl f13)), (au, .inl (tu, 3, .inl (fun _ => 0)))] H := hP
                        have hD : va_D A [(h0, .inr (8, [.int 0, .ref am, .ref ad, .ref ab, .int 0, .int 224, .ref ar, .int 0, .int 0, .int 0, .int 0, .int 0, .int 0, .ref az, .ref ae, .ref ao, .ref an, .ref au, .int 0, .int 0, .int 0, .ref ap, .ref aw, .int 0, .int 0, .int 0, .int 0, .int 0])), (az, .inl (tz, 3, .inl rdy)), (ae, .inl (te, 3, .inl (fun _ => 0))), (ao, .inl (to, 3, .inl (upd bo (2 : Int32).toNatClampNeg (vp_nar .boolean 0)))), (an, .inl (tn, 3, .inl f13)), (au, .inl (tu, 3, .inl (fun _ => 0)))] := hD
                        obtain ⟨f14, hf14⟩ : ∃ z : Nat → Int32, z = upd bo (2 : Int32).toNatClampNeg (vp_nar .boolean 0) := ⟨_, rfl⟩
                        rw [← hf14] at hP hD
                        have hf14_2 : f14 (2 : Int32).toNatClampNeg = 0 := by rw [hf14, pk_us]; decide
                        have hP : va_P (dC, dI) vwCl [(h0, .inr (8, [.int 0, .ref am, .ref ad, .ref ab, .int 0, .int 224, .ref ar, .int 0, .int 0, .int 0, .int 0, .int 0, .int 0, .ref az, .ref ae, .ref ao, .ref an, .ref au, .int 0, .int 0, .int 0, .ref ap, .ref aw, .int 0, .int 0, .int 0, .int 0, .int 0])), (az, .inl (tz, 3, .inl rdy)), (ae, .inl (te, 3, .inl (fun _ => 0))), (ao, .inl (to, 3, .inl f14)), (an, .inl (tn, 3, .inl f13)), (au, .inl (tu, 3, .inl (fun _ => 0)))] H := hP
                        have hD : va_D A [(h0, .inr (8, [.int 0, .ref am, .ref ad, .ref ab, .int 0, .int 224, .ref ar, .int 0, .int 0, .int 0, .int 0, .int 0, .int 0, .ref az, .ref ae, .ref ao, .ref an, .ref au, .int 0, .int 0, .int 0, .ref ap, .ref aw, .int 0, .int 0, .int 0, .int 0, .int 0])), (az, .inl (tz, 3, .inl rdy)), (ae, .inl (te, 3, .inl (fun _ => 0))), (ao, .inl (to, 3, .inl f14)), (an, .inl (tn, 3, .inl f13)), (au, .inl (tu, 3, .inl (fun _ => 0)))] := hD
                        refine lv_iload_n hx hb dX9_goOn_118 rfl (lv_at hl 1 rfl) ?_
                        refine lv_if_ne (tgt := 126) hx hb dX9_goOn_119 (by decide) (fun c15 => ?_) (fun c15 => ?_)
                        · skip
                          refine lv_iconst (v := 4) hx hb dX9_goOn_126 (by decide) ?_
                          refine lv_istore (lv' := [(4, .int 4), (3, .int 0), (2, .int 2), (1, .int (-1)), (0, .ref h0)]) hx hb dX9_goOn_127 hl (by decide) rfl (fun ls hl => ?_)
                          refine lv_aload_n hx hb dX9_goOn_129 rfl (lv_at hl 4 rfl) ?_
                          refine va_get (D := (dC, dI)) (ci := 8) (v := .ref an) (C := RX9) (T := TX9) (N := 28) hx hb hts (by decide +kernel) hown hK hP 0 rfl rfl 16 (by decide) (hts (.fieldLink RX9 36 "UnibusMachineModel" "wants" "[Z") (by decide +kernel)) (fun _ h9 => h9) rfl dX9_goOn_130 ?_
                          refine lv_iload_n hx hb dX9_goOn_133 rfl (lv_at hl 2 rfl) ?_
                          refine va_zald (D := (dC, dI)) hx hb hK hP 4 3 rfl rfl (vp_in_iff.mpr (by decide)) dX9_goOn_134 ?_
                          refine lv_topi (fun y16 ey16 => ?_)
                          obtain rfl : y16 = 0 := by rw [ey16]; assumption
                          refine lv_if_eq (tgt := 155) hx hb dX9_goOn_135 (by decide) (fun c17 => ?_) (fun c17 => ?_)
                          · skip
                            refine lv_iinc (v := 1) (lv' := [(2, .int 1), (4, .int 4), (3, .int 0), (1, .int (-1)), (0, .ref h0)]) hx hb dX9_goOn_155 hl (k := 2) rfl (by decide) (by decide) rfl (fun ls hl => ?_)
                            refine lv_goto (tgt := 50) hx hb dX9_goOn_158 (by decide) ?_
                            refine lv_iload_n hx hb dX9_goOn_50 rfl (lv_at hl 0 rfl) ?_
                            refine lv_if_lt (tgt := 161) hx hb dX9_goOn_51 (by decide) (fun c18 => ?_) (fun c18 => ?_)
                            · exact absurd c18 (by decide)
                            · skip
                              refine lv_aload_n hx hb dX9_goOn_54 rfl (lv_at hl 4 rfl) ?_
                              refine va_get (D := (dC, dI)) (ci := 8) (v := .ref az) (C := RX9) (T := TX9) (N := 28) hx hb hts (by decide +kernel) hown hK hP 0 rfl rfl 13 (by decide) (hts (.fieldLink RX9 26 "UnibusMachineModel" "ready" "[Z") (by decide +kernel)) (fun _ h9 => h9) rfl dX9_goOn_55 ?_
                              refine lv_iload_n hx hb dX9_goOn_58 rfl (lv_at hl 0 rfl) ?_
                              refine va_zald (D := (dC, dI)) hx hb hK hP 1 0 rfl rfl (vp_in_iff.mpr (by decide)) dX9_goOn_59 ?_
                              refine lv_topi (fun y19 ey19 => ?_)
                              obtain rfl : y19 = 0 := by rw [ey19]; decide +kernel
                              refine lv_if_eq (tgt := 76) hx hb dX9_goOn_60 (by decide) (fun c20 => ?_) (fun c20 => ?_)
                              · skip
                                refine lv_iconst (v := 0) hx hb dX9_goOn_76 (by decide) ?_
                                refine lv_istore_n (lv' := [(3, .int 0), (2, .int 1), (4, .int 4), (1, .int (-1)), (0, .ref h0)]) hx hb dX9_goOn_77 rfl hl (by decide) rfl (fun ls hl => ?_)
                                refine lv_aload_n hx hb dX9_goOn_78 rfl (lv_at hl 4 rfl) ?_
                                refine va_get (D := (dC, dI)) (ci := 8) (v := .ref an) (C := RX9) (T := TX9) (N := 28) hx hb hts (by decide +kernel) hown hK hP 0 rfl rfl 16 (by decide) (hts (.fieldLink RX9 36 "UnibusMachineModel" "wants" "[Z") (by decide +kernel)) (fun _ h9 => h9) rfl dX9_goOn_79 ?_
                                refine lv_iload_n hx hb dX9_goOn_82 rfl (lv_at hl 1 rfl) ?_
                                refine lv_iload_n hx hb dX9_goOn_83 rfl (lv_at hl 0 rfl) ?_
                                refine lv_if_eq (tgt := 109) hx hb dX9_goOn_84 (by decide) (fun c21 => ?_) (fun c21 => ?_)
                                · skip
                                  refine lv_iconst (v := 0) hx hb dX9_goOn_109 (by decide) ?_
                                  refine va_zast (D := (dC, dI)) hx hb hK hP hD hS 4 3 rfl rfl (vp_in_iff.mpr (by decide)) dX9_goOn_110 (fun H locs hP hD hS => ?_)
                                  have hP : va_P (dC, dI) vwCl [(h0, .inr (8, [.int 0, .ref am, .ref ad, .ref ab, .int 0, .int 224, .ref ar, .int 0, .int 0, .int 0, .int 0, .int 0, .int 0, .ref az, .ref ae, .ref ao, .ref an, .ref au, .int 0, .int 0, .int 0, .ref ap, .ref aw, .int 0, .int 0, .int 0, .int 0, .int 0])), (az, .inl (tz, 3, .inl rdy)), (ae, .inl (te, 3, .inl (fun _ => 0))), (ao, .inl (to, 3, .inl f14)), (an, .inl (tn, 3, .inl (upd f13 (1 : Int32).toNatClampNeg (vp_nar .boolean 0)))), (au, .inl (tu, 3, .inl (fun _ => 0)))] H := hP
                                  have hD : va_D A [(h0, .inr (8, [.int 0, .ref am, .ref ad, .ref ab, .int 0, .int 224, .ref ar, .int 0, .int 0, .int 0, .int 0, .int 0, .int 0, .ref az, .ref ae, .ref ao, .ref an, .ref au, .int 0, .int 0, .int 0, .ref ap, .ref aw, .int 0, .int 0, .int 0, .int 0, .int 0])), (az, .inl (tz, 3, .inl rdy)), (ae, .inl (te, 3, .inl (fun _ => 0))), (ao, .inl (to, 3, .inl f14)), (an, .inl (tn, 3, .inl (upd f13 (1 : Int32).toNatClampNeg (vp_nar .boolean 0)))), (au, .inl (tu, 3, .inl (fun _ => 0)))] := hD
                                  obtain ⟨f22, hf22⟩ : ∃ z : Nat → Int32, z = upd f13 (1 : Int32).toNatClampNeg (vp_nar .boolean 0) := ⟨_, rfl⟩
                                  rw [← hf22] at hP hD
                                  have hf22_2 : f22 (2 : Int32).toNatClampNeg = 0 := by rw [hf22, pk_un (by decide)]; assumption
                                  have hf22_1 : f22 (1 : Int32).toNatClampNeg = 0 := by rw [hf22, pk_us]; decide
                                  have hP : va_P (dC, dI) vwCl [(h0, .inr (8, [.int 0, .ref am, .ref ad, .ref ab, .int 0, .int 224, .ref ar, .int 0, .int 0, .int 0, .int 0, .int 0, .int 0, .ref az, .ref ae, .ref ao, .ref an, .ref au, .int 0, .int 0, .int 0, .ref ap, .ref aw, .int 0, .int 0, .int 0, .int 0, .int 0])), (az, .inl (tz, 3, .inl rdy)), (ae, .inl (te, 3, .inl (fun _ => 0))), (ao, .inl (to, 3, .inl f14)), (an, .inl (tn, 3, .inl f22)), (au, .inl (tu, 3, .inl (fun _ => 0)))] H := hP
                                  have hD : va_D A [(h0, .inr (8, [.int 0, .ref am, .ref ad, .ref ab, .int 0, .int 224, .ref ar, .int 0, .int 0, .int 0, .int 0, .int 0, .int 0, .ref az, .ref ae, .ref ao, .ref an, .ref au, .int 0, .int 0, .int 0, .ref ap, .ref aw, .int 0, .int 0, .int 0, .int 0, .int 0])), (az, .inl (tz, 3, .inl rdy)), (ae, .inl (te, 3, .inl (fun _ => 0))), (ao, .inl (to, 3, .inl f14)), (an, .inl (tn, 3, .inl f22)), (au, .inl (tu, 3, .inl (fun _ => 0)))] := hD
                                  refine lv_aload_n hx hb dX9_goOn_111 rfl (lv_at hl 4 rfl) ?_
                                  refine va_get (D := (dC, dI)) (ci := 8) (v := .ref ao) (C := RX9) (T := TX9) (N := 28) hx hb hts (by decide +kernel) hown hK hP 0 rfl rfl 15 (by decide) (hts (.fieldLink RX9 33 "UnibusMachineModel" "both" "[Z") (by decide +kernel)) (fun _ h9 => h9) rfl dX9_goOn_112 ?_
                                  refine lv_iload_n hx hb dX9_goOn_115 rfl (lv_at hl 1 rfl) ?_
                                  refine lv_iload_n hx hb dX9_goOn_116 rfl (lv_at hl 0 rfl) ?_
                                  refine va_zast (D := (dC, dI)) hx hb hK hP hD hS 3 2 rfl rfl (vp_in_iff.mpr (by decide)) dX9_goOn_117 (fun H locs hP hD hS => ?_)
                                  have hP : va_P (dC, dI) vwCl [(h0, .inr (8, [.int 0, .ref am, .ref ad, .ref ab, .int 0, .int 224, .ref ar, .int 0, .int 0, .int 0, .int 0, .int 0, .int 0, .ref az, .ref ae, .ref ao, .ref an, .ref au, .int 0, .int 0, .int 0, .ref ap, .ref aw, .int 0, .int 0, .int 0, .int 0, .int 0])), (az, .inl (tz, 3, .inl rdy)), (ae, .inl (te, 3, .inl (fun _ => 0))), (ao, .inl (to, 3, .inl (upd f14 (1 : Int32).toNatClampNeg (vp_nar .boolean 0)))), (an, .inl (tn, 3, .inl f22)), (au, .inl (tu, 3, .inl (fun _ => 0)))] H := hP
                                  have hD : va_D A [(h0, .inr (8, [.int 0, .ref am, .ref ad, .ref ab, .int 0, .int 224, .ref ar, .int 0, .int 0, .int 0, .int 0, .int 0, .int 0, .ref az, .ref ae, .ref ao, .ref an, .ref au, .int 0, .int 0, .int 0, .ref ap, .ref aw, .int 0, .int 0, .int 0, .int 0, .int 0])), (az, .inl (tz, 3, .inl rdy)), (ae, .inl (te, 3, .inl (fun _ => 0))), (ao, .inl (to, 3, .inl (upd f14 (1 : Int32).toNatClampNeg (vp_nar .boolean 0)))), (an, .inl (tn, 3, .inl f22)), (au, .inl (tu, 3, .inl (fun _ => 0)))] := hD
                                  obtain ⟨f23, hf23⟩ : ∃ z : Nat → Int32, z = upd f14 (1 : Int32).toNatClampNeg (vp_nar .boolean 0) := ⟨_, rfl⟩
                                  rw [← hf23] at hP hD
                                  have hf23_2 : f23 (2 : Int32).toNatClampNeg = 0 := by rw [hf23, pk_un (by decide)]; assumption
                                  have hf23_1 : f23 (1 : Int32).toNatClampNeg = 0 := by rw [hf23, pk_us]; decide
                                  have hP : va_P (dC, dI) vwCl [(h0, .inr (8, [.int 0, .ref am, .ref ad, .ref ab, .int 0, .int 224, .ref ar, .int 0, .int 0, .int 0, .int 0, .int 0, .int 0, .ref az, .ref ae, .ref ao, .ref an, .ref au, .int 0, .int 0, .int 0, .ref ap, .ref aw, .int 0, .int 0, .int 0, .int 0, .int 0])), (az, .inl (tz, 3, .inl rdy)), (ae, .inl (te, 3, .inl (fun _ => 0))), (ao, .inl (to, 3, .inl f23)), (an, .inl (tn, 3, .inl f22)), (au, .inl (tu, 3, .inl (fun _ => 0)))] H := hP
                                  have hD : va_D A [(h0, .inr (8, [.int 0, .ref am, .ref ad, .ref ab, .int 0, .int 224, .ref ar, .int 0, .int 0, .int 0, .int 0, .int 0, .int 0, .ref az, .ref ae, .ref ao, .ref an, .ref au, .int 0, .int 0, .int 0, .ref ap, .ref aw, .int 0, .int 0, .int 0, .int 0, .int 0])), (az, .inl (tz, 3, .inl rdy)), (ae, .inl (te, 3, .inl (fun _ => 0))), (ao, .inl (to, 3, .inl f23)), (an, .inl (tn, 3, .inl f22)), (au, .inl (tu, 3, .inl (fun _ => 0)))] := hD
                                  refine lv_iload_n hx hb dX9_goOn_118 rfl (lv_at hl 1 rfl) ?_
                                  refine lv_if_ne (tgt := 126) hx hb dX9_goOn_119 (by decide) (fun c24 => ?_) (fun c24 => ?_)
                                  · skip
                                    refine lv_iconst (v := 4) hx hb dX9_goOn_126 (by decide) ?_
                                    refine lv_istore (lv' := [(4, .int 4), (3, .int 0), (2, .int 1), (1, .int (-1)), (0, .ref h0)]) hx hb dX9_goOn_127 hl (by decide) rfl (fun ls hl => ?_)
                                    refine lv_aload_n hx hb dX9_goOn_129 rfl (lv_at hl 4 rfl) ?_
                                    refine va_get (D := (dC, dI)) (ci := 8) (v := .ref an) (C := RX9) (T := TX9) (N := 28) hx hb hts (by decide +kernel) hown hK hP 0 rfl rfl 16 (by decide) (hts (.fieldLink RX9 36 "UnibusMachineModel" "wants" "[Z") (by decide +kernel)) (fun _ h9 => h9) rfl dX9_goOn_130 ?_
                                    refine lv_iload_n hx hb dX9_goOn_133 rfl (lv_at hl 2 rfl) ?_
                                    refine va_zald (D := (dC, dI)) hx hb hK hP 4 3 rfl rfl (vp_in_iff.mpr (by decide)) dX9_goOn_134 ?_
                                    refine lv_topi (fun y25 ey25 => ?_)
                                    obtain rfl : y25 = 0 := by rw [ey25]; assumption
                                    refine lv_if_eq (tgt := 155) hx hb dX9_goOn_135 (by decide) (fun c26 => ?_) (fun c26 => ?_)
                                    · skip
                                      refine lv_iinc (v := 0) (lv' := [(2, .int 0), (4, .int 4), (3, .int 0), (1, .int (-1)), (0, .ref h0)]) hx hb dX9_goOn_155 hl (k := 2) rfl (by decide) (by decide) rfl (fun ls hl => ?_)
                                      refine lv_goto (tgt := 50) hx hb dX9_goOn_158 (by decide) ?_
                                      refine lv_iload_n hx hb dX9_goOn_50 rfl (lv_at hl 0 rfl) ?_
                                      refine lv_if_lt (tgt := 161) hx hb dX9_goOn_51 (by decide) (fun c27 => ?_) (fun c27 => ?_)
                                      · exact absurd c27 (by decide)
                                      · skip
                                        refine lv_aload_n hx hb dX9_goOn_54 rfl (lv_at hl 4 rfl) ?_
                                        refine va_get (D := (dC, dI)) (ci := 8) (v := .ref az) (C := RX9) (T := TX9) (N := 28) hx hb hts (by decide +kernel) hown hK hP 0 rfl rfl 13 (by decide) (hts (.fieldLink RX9 26 "UnibusMachineModel" "ready" "[Z") (by decide +kernel)) (fun _ h9 => h9) rfl dX9_goOn_55 ?_
                                        refine lv_iload_n hx hb dX9_goOn_58 rfl (lv_at hl 0 rfl) ?_
                                        refine va_zald (D := (dC, dI)) hx hb hK hP 1 0 rfl rfl (vp_in_iff.mpr (by decide)) dX9_goOn_59 ?_
                                        refine lv_topi (fun y28 ey28 => ?_)
                                        obtain rfl : y28 = 1 := by rw [ey28]; decide +kernel
                                        refine lv_if_eq (tgt := 76) hx hb dX9_goOn_60 (by decide) (fun c29 => ?_) (fun c29 => ?_)
                                        · exact absurd c29 (by decide)
                                        · skip
                                          refine lv_aload_n hx hb dX9_goOn_63 rfl (lv_at hl 4 rfl) ?_
                                          refine va_get (D := (dC, dI)) (ci := 8) (v := .ref ae) (C := RX9) (T := TX9) (N := 28) hx hb hts (by decide +kernel) hown hK hP 0 rfl rfl 14 (by decide) (hts (.fieldLink RX9 30 "UnibusMachineModel" "enabled" "[Z") (by decide +kernel)) (fun _ h9 => h9) rfl dX9_goOn_64 ?_
                                          refine lv_iload_n hx hb dX9_goOn_67 rfl (lv_at hl 0 rfl) ?_
                                          refine va_zald (D := (dC, dI)) hx hb hK hP 2 1 rfl rfl (vp_in_iff.mpr (by decide)) dX9_goOn_68 ?_
                                          refine lv_if_eq (tgt := 76) hx hb dX9_goOn_69 (by decide) (fun c30 => ?_) (fun c30 => ?_)
                                          · skip
                                            refine lv_iconst (v := 0) hx hb dX9_goOn_76 (by decide) ?_
                                            refine lv_istore_n (lv' := [(3, .int 0), (2, .int 0), (4, .int 4), (1, .int (-1)), (0, .ref h0)]) hx hb dX9_goOn_77 rfl hl (by decide) rfl (fun ls hl => ?_)
                                            refine lv_aload_n hx hb dX9_goOn_78 rfl (lv_at hl 4 rfl) ?_
                                            refine va_get (D := (dC, dI)) (ci := 8) (v := .ref an) (C := RX9) (T := TX9) (N := 28) hx hb hts (by decide +kernel) hown hK hP 0 rfl rfl 16 (by decide) (hts (.fieldLink RX9 36 "UnibusMachineModel" "wants" "[Z") (by decide +kernel)) (fun _ h9 => h9) rfl dX9_goOn_79 ?_
                                            refine lv_iload_n hx hb dX9_goOn_82 rfl (lv_at hl 1 rfl) ?_
                                            refine lv_iload_n hx hb dX9_goOn_83 rfl (lv_at hl 0 rfl) ?_
                                            refine lv_if_eq (tgt := 109) hx hb dX9_goOn_84 (by decide) (fun c31 => ?_) (fun c31 => ?_)
                                            · skip
                                              refine lv_iconst (v := 0) hx hb dX9_goOn_109 (by decide) ?_
                                              refine va_zast (D := (dC, dI)) hx hb hK hP hD hS 4 3 rfl rfl (vp_in_iff.mpr (by decide)) dX9_goOn_110 (fun H locs hP hD hS => ?_)
                                              have hP : va_P (dC, dI) vwCl [(h0, .inr (8, [.int 0, .ref am, .ref ad, .ref ab, .int 0, .int 224, .ref ar, .int 0, .int 0, .int 0, .int 0, .int 0, .int 0, .ref az, .ref ae, .ref ao, .ref an, .ref au, .int 0, .int 0, .int 0, .ref ap, .ref aw, .int 0, .int 0, .int 0, .int 0, .int 0])), (az, .inl (tz, 3, .inl rdy)), (ae, .inl (te, 3, .inl (fun _ => 0))), (ao, .inl (to, 3, .inl f23)), (an, .inl (tn, 3, .inl (upd f22 (0 : Int32).toNatClampNeg (vp_nar .boolean 0)))), (au, .inl (tu, 3, .inl (fun _ => 0)))] H := hP
                                              have hD : va_D A [(h0, .inr (8, [.int 0, .ref am, .ref ad, .ref ab, .int 0, .int 224, .ref ar, .int 0, .int 0, .int 0, .int 0, .int 0, .int 0, .ref az, .ref ae, .ref ao, .ref an, .ref au, .int 0, .int 0, .int 0, .ref ap, .ref aw, .int 0, .int 0, .int 0, .int 0, .int 0])), (az, .inl (tz, 3, .inl rdy)), (ae, .inl (te, 3, .inl (fun _ => 0))), (ao, .inl (to, 3, .inl f23)), (an, .inl (tn, 3, .inl (upd f22 (0 : Int32).toNatClampNeg (vp_nar .boolean 0)))), (au, .inl (tu, 3, .inl (fun _ => 0)))] := hD
                                              obtain ⟨f32, hf32⟩ : ∃ z : Nat → Int32, z = upd f22 (0 : Int32).toNatClampNeg (vp_nar .boolean 0) := ⟨_, rfl⟩
                                              rw [← hf32] at hP hD
                                              have hf32_2 : f32 (2 : Int32).toNatClampNeg = 0 := by rw [hf32, pk_un (by decide)]; assumption
                                              have hf32_1 : f32 (1 : Int32).toNatClampNeg = 0 := by rw [hf32, pk_un (by decide)]; assumption
                                              have hf32_0 : f32 (0 : Int32).toNatClampNeg = 0 := by rw [hf32, pk_us]; decide
                                              have hP : va_P (dC, dI) vwCl [(h0, .inr (8, [.int 0, .ref am, .ref ad, .ref ab, .int 0, .int 224, .ref ar, .int 0, .int 0, .int 0, .int 0, .int 0, .int 0, .ref az, .ref ae, .ref ao, .ref an, .ref au, .int 0, .int 0, .int 0, .ref ap, .ref aw, .int 0, .int 0, .int 0, .int 0, .int 0])), (az, .inl (tz, 3, .inl rdy)), (ae, .inl (te, 3, .inl (fun _ => 0))), (ao, .inl (to, 3, .inl f23)), (an, .inl (tn, 3, .inl f32)), (au, .inl (tu, 3, .inl (fun _ => 0)))] H := hP
                                              have hD : va_D A [(h0, .inr (8, [.int 0, .ref am, .ref ad, .ref ab, .int 0, .int 224, .ref ar, .int 0, .int 0, .int 0, .int 0, .int 0, .int 0, .ref az, .ref ae, .ref ao, .ref an, .ref au, .int 0, .int 0, .int 0, .ref ap, .ref aw, .int 0, .int 0, .int 0, .int 0, .int 0])), (az, .inl (tz, 3, .inl rdy)), (ae, .inl (te, 3, .inl (fun _ => 0))), (ao, .inl (to, 3, .inl f23)), (an, .inl (tn, 3, .inl f32)), (au, .inl (tu, 3, .inl (fun _ => 0)))] := hD
                                              refine lv_aload_n hx hb dX9_goOn_111 rfl (lv_at hl 4 rfl) ?_
                                              refine va_get (D := (dC, dI)) (ci := 8) (v := .ref ao) (C := RX9) (T := TX9) (N := 28) hx hb hts (by decide +kernel) hown hK hP 0 rfl rfl 15 (by decide) (hts (.fieldLink RX9 33 "UnibusMachineModel" "both" "[Z") (by decide +kernel)) (fun _ h9 => h9) rfl dX9_goOn_112 ?_
                                              refine lv_iload_n hx hb dX9_goOn_115 rfl (lv_at hl 1 rfl) ?_
                                              refine lv_iload_n hx hb dX9_goOn_116 rfl (lv_at hl 0 rfl) ?_
                                              refine va_zast (D := (dC, dI)) hx hb hK hP hD hS 3 2 rfl rfl (vp_in_iff.mpr (by decide)) dX9_goOn_117 (fun H locs hP hD hS => ?_)
                                              have hP : va_P (dC, dI) vwCl [(h0, .inr (8, [.int 0, .ref am, .ref ad, .ref ab, .int 0, .int 224, .ref ar, .int 0, .int 0, .int 0, .int 0, .int 0, .int 0, .ref az, .ref ae, .ref ao, .ref an, .ref au, .int 0, .int 0, .int 0, .ref ap, .ref aw, .int 0, .int 0, .int 0, .int 0, .int 0])), (az, .inl (tz, 3, .inl rdy)), (ae, .inl (te, 3, .inl (fun _ => 0))), (ao, .inl (to, 3, .inl (upd f23 (0 : Int32).toNatClampNeg (vp_nar .boolean 0)))), (an, .inl (tn, 3, .inl f32)), (au, .inl (tu, 3, .inl (fun _ => 0)))] H := hP
                                              have hD : va_D A [(h0, .inr (8, [.int 0, .ref am, .ref ad, .ref ab, .int 0, .int 224, .ref ar, .int 0, .int 0, .int 0, .int 0, .int 0, .int 0, .ref az, .ref ae, .ref ao, .ref an, .ref au, .int 0, .int 0, .int 0, .ref ap, .ref aw, .int 0, .int 0, .int 0, .int 0, .int 0])), (az, .inl (tz, 3, .inl rdy)), (ae, .inl (te, 3, .inl (fun _ => 0))), (ao, .inl (to, 3, .inl (upd f23 (0 : Int32).toNatClampNeg (vp_nar .boolean 0)))), (an, .inl (tn, 3, .inl f32)), (au, .inl (tu, 3, .inl (fun _ => 0)))] := hD
                                              obtain ⟨f33, hf33⟩ : ∃ z : Nat → Int32, z = upd f23 (0 : Int32).toNatClampNeg (vp_nar .boolean 0) := ⟨_, rfl⟩
                                              rw [← hf33] at hP hD
                                              have hf33_2 : f33 (2 : Int32).toNatClampNeg = 0 := by rw [hf33, pk_un (by decide)]; assumption
                                              have hf33_1 : f33 (1 : Int32).toNatClampNeg = 0 := by rw [hf33, pk_un (by decide)]; assumption
                                              have hf33_0 : f33 (0 : Int32).toNatClampNeg = 0 := by rw [hf33, pk_us]; decide
                                              have hP : va_P (dC, dI) vwCl [(h0, .inr (8, [.int 0, .ref am, .ref ad, .ref ab, .int 0, .int 224, .ref ar, .int 0, .int 0, .int 0, .int 0, .int 0, .int 0, .ref az, .ref ae, .ref ao, .ref an, .ref au, .int 0, .int 0, .int 0, .ref ap, .ref aw, .int 0, .int 0, .int 0, .int 0, .int 0])), (az, .inl (tz, 3, .inl rdy)), (ae, .inl (te, 3, .inl (fun _ => 0))), (ao, .inl (to, 3, .inl f33)), (an, .inl (tn, 3, .inl f32)), (au, .inl (tu, 3, .inl (fun _ => 0)))] H := hP
                                              have hD : va_D A [(h0, .inr (8, [.int 0, .ref am, .ref ad, .ref ab, .int 0, .int 224, .ref ar, .int 0, .int 0, .int 0, .int 0, .int 0, .int 0, .ref az, .ref ae, .ref ao, .ref an, .ref au, .int 0, .int 0, .int 0, .ref ap, .ref aw, .int 0, .int 0, .int 0, .int 0, .int 0])), (az, .inl (tz, 3, .inl rdy)), (ae, .inl (te, 3, .inl (fun _ => 0))), (ao, .inl (to, 3, .inl f33)), (an, .inl (tn, 3, .inl f32)), (au, .inl (tu, 3, .inl (fun _ => 0)))] := hD
                                              refine lv_iload_n hx hb dX9_goOn_118 rfl (lv_at hl 1 rfl) ?_
                                              refine lv_if_ne (tgt := 126) hx hb dX9_goOn_119 (by decide) (fun c34 => ?_) (fun c34 => ?_)
                                              · exact absurd c34 (by decide)
                                              · skip
                                                refine lv_iconst (v := 5) hx hb dX9_goOn_122 (by decide) ?_
                                                refine lv_goto (tgt := 127) hx hb dX9_goOn_123 (by decide) ?_
                                                refine lv_istore (lv' := [(4, .int 5), (3, .int 0), (2, .int 0), (1, .int (-1)), (0, .ref h0)]) hx hb dX9_goOn_127 hl (by decide) rfl (fun ls hl => ?_)
                                                refine lv_aload_n hx hb dX9_goOn_129 rfl (lv_at hl 4 rfl) ?_
                                                refine va_get (D := (dC, dI)) (ci := 8) (v := .ref an) (C := RX9) (T := TX9) (N := 28) hx hb hts (by decide +kernel) hown hK hP 0 rfl rfl 16 (by decide) (hts (.fieldLink RX9 36 "UnibusMachineModel" "wants" "[Z") (by decide +kernel)) (fun _ h9 => h9) rfl dX9_goOn_130 ?_
                                                refine lv_iload_n hx hb dX9_goOn_133 rfl (lv_at hl 2 rfl) ?_
                                                refine va_zald (D := (dC, dI)) hx hb hK hP 4 3 rfl rfl (vp_in_iff.mpr (by decide)) dX9_goOn_134 ?_
                                                refine lv_topi (fun y35 ey35 => ?_)
                                                obtain rfl : y35 = 0 := by rw [ey35]; assumption
                                                refine lv_if_eq (tgt := 155) hx hb dX9_goOn_135 (by decide) (fun c36 => ?_) (fun c36 => ?_)
                                                · skip
                                                  refine lv_iinc (v := (-1)) (lv' := [(2, .int (-1)), (4, .int 5), (3, .int 0), (1, .int (-1)), (0, .ref h0)]) hx hb dX9_goOn_155 hl (k := 2) rfl (by decide) (by decide) rfl (fun ls hl => ?_)
                                                  refine lv_goto (tgt := 50) hx hb dX9_goOn_158 (by decide) ?_
                                                  refine lv_iload_n hx hb dX9_goOn_50 rfl (lv_at hl 0 rfl) ?_
                                                  refine lv_if_lt (tgt := 161) hx hb dX9_goOn_51 (by decide) (fun c37 => ?_) (fun c37 => ?_)
                                                  · skip
                                                    refine lv_iload_n hx hb dX9_goOn_161 rfl (lv_at hl 3 rfl) ?_
                                                    refine lv_if_ge (tgt := 166) hx hb dX9_goOn_162 (by decide) (fun c38 => ?_) (fun c38 => ?_)
                                                    · exact absurd c38 (by decide)
                                                    · skip
                                                      have hP9 := hP.sub (ws' := [(h0, .inr (8, [.int 0, .ref am, .ref ad, .ref ab, .int 0, .int 224, .ref ar, .int 0, .int 0, .int 0, .int 0, .int 0, .int 0, .ref az, .ref ae, .ref ao, .ref an, .ref au, .int 0, .int 0, .int 0, .ref ap, .ref aw, .int 0, .int 0, .int 0, .int 0, .int 0])), (az, .inl (tz, 3, .inl rdy)), (ae, .inl (te, 3, .inl (fun _ => 0))), (ao, .inl (to, 3, .inl f33)), (an, .inl (tn, 3, .inl f32)), (au, .inl (tu, 3, .inl (fun _ => 0)))]) [0, 1, 2, 3, 4, 5] rfl
                                                      have hD9 := hD.sub (ws' := [(h0, .inr (8, [.int 0, .ref am, .ref ad, .ref ab, .int 0, .int 224, .ref ar, .int 0, .int 0, .int 0, .int 0, .int 0, .int 0, .ref az, .ref ae, .ref ao, .ref an, .ref au, .int 0, .int 0, .int 0, .ref ap, .ref aw, .int 0, .int 0, .int 0, .int 0, .int 0])), (az, .inl (tz, 3, .inl rdy)), (ae, .inl (te, 3, .inl (fun _ => 0))), (ao, .inl (to, 3, .inl f33)), (an, .inl (tn, 3, .inl f32)), (au, .inl (tu, 3, .inl (fun _ => 0)))]) [0, 1, 2, 3, 4, 5] (by decide) rfl
                                                      have hK9 := hK.sub (tys' := [(tz, .boolean), (te, .boolean), (to, .boolean), (tn, .boolean), (tu, .int)]) [0, 1, 2, 3, 4] rfl
                                                      exact W.vret hx hb hr (fun t ht hW => ⟨⟨(f33, f32), rfl, trivial, by rw [ht]; exact hP9, va_K.moved hW.alike hK9, hD9⟩, hS.F ht⟩) hS.2.2 dX9_goOn_165
                                                  · exact absurd c37 (by decide)
                                                · exact absurd c36 (by decide)
                                            · exact absurd c31 (by decide)
                                          · exact absurd c30 (by decide)
                                    · exact absurd c26 (by decide)
                                  · exact absurd c24 (by decide)
                                · exact absurd c21 (by decide)
                              · exact absurd c20 (by decide)
                          · exact absurd c17 (by decide)
                        · exact absurd c15 (by decide)
                      · exact absurd c12 (by decide)
                    · exact absurd c11 (by decide)
              · exact absurd c7 (by decide)
            · exact absurd c6 (by decide)
        · exact absurd c4 (by decide)
    · exact absurd c2 (by decide)
set_option maxHeartbeats 4000000 in
set_option maxRecDepth 100000 in
theorem c_m_run (l : Launch) (dC : Nat → ClassId) (dI : Nat → Nat → Nat) (h0 : Nat) (am : Nat) (ad : Nat) (ab : Nat) (ar : Nat) (az : Nat) (ae : Nat) (ao : Nat) (an : Nat) (au : Nat) (ap : Nat) (aw : Nat) (tm : ClassId) (tr : ClassId) (tz : ClassId) (te : ClassId) (to : ClassId) (tn : ClassId) (tu : ClassId) (f : Nat → Int32) (g : Nat → Int32) (z : Int) (bo : Nat → Int32) (wa : Nat → Int32) (sz : Nat) (hF0 : f (2 : Int32).toNatClampNeg = 1) (hF1 : f (3 : Int32).toNatClampNeg = 224) (hF2 : ∀ i : Nat, 0 ≤ (f i).toInt) (hF3 : g (7 : Int32).toNatClampNeg = 1) (hF4 : (g (6 : Int32).toNatClampNeg).toInt = z) (hH5 : 182 ≤ z) (hH6 : z ≤ 1024) (hH7 : z % 2 = 0) : Met l yX9_run wsX9_run ({ frames := 5, cells := 0, slots := 0, locals := 114 } : Room) (va_Pc [.ref h0, .int 4] (fun U => U.heap.size = sz ∧ va_P (dC, dI) vwCl [(h0, .inr (8, [.int 0, .ref am, .ref ad, .ref ab, .int 0, .int 224, .ref ar, .int 0, .int 0, .int 0, .int 0, .int 0, .int 0, .ref az, .ref ae, .ref ao, .ref an, .ref au, .int 0, .int 0, .int 0, .ref ap, .ref aw, .int 0, .int 0, .int 0, .int 0, .int 0])), (am, .inl (tm, 512, .inl f)), (ar, .inl (tr, 8, .inl g)), (az, .inl (tz, 3, .inl rdy)), (ae, .inl (te, 3, .inl (fun _ => 0))), (ao, .inl (to, 3, .inl bo)), (an, .inl (tn, 3, .inl wa)), (au, .inl (tu, 3, .inl (fun _ => 0)))] U.heap ∧ va_K (dC, dI) vwCl [(tm, .int), (tr, .int), (tz, .boolean), (te, .boolean), (to, .boolean), (tn, .boolean), (tu, .int)] U ∧ va_D (fun _ => True) [(h0, .inr (8, [.int 0, .ref am, .ref ad, .ref ab, .int 0, .int 224, .ref ar, .int 0, .int 0, .int 0, .int 0, .int 0, .int 0, .ref az, .ref ae, .ref ao, .ref an, .ref au, .int 0, .int 0, .int 0, .ref ap, .ref aw, .int 0, .int 0, .int 0, .int 0, .int 0])), (am, .inl (tm, 512, .inl f)), (ar, .inl (tr, 8, .inl g)), (az, .inl (tz, 3, .inl rdy)), (ae, .inl (te, 3, .inl (fun _ => 0))), (ao, .inl (to, 3, .inl bo)), (an, .inl (tn, 3, .inl wa)), (au, .inl (tu, 3, .inl (fun _ => 0)))])) (va_Qi (fun (r : Int32) (u : (Nat → Int32) × (Nat → Int32) × (Nat → Int32) × (Nat → Int32)) => (4 = r) ∧ (u.1 (2 : Int32).toNatClampNeg = 1) ∧ (u.1 (3 : Int32).toNatClampNeg = 224) ∧ (∀ i : Nat, 0 ≤ (u.1 i).toInt) ∧ (u.2.1 (7 : Int32).toNatClampNeg = 1) ∧ ((u.2.1 (6 : Int32).toNatClampNeg).toInt = z - 16)) (fun (u : (Nat → Int32) × (Nat → Int32) × (Nat → Int32) × (Nat → Int32)) (t : State) => va_P (dC, dI) vwCl [(h0, .inr (8, [.int 0, .ref am, .ref ad, .ref ab, .int 0, .int 224, .ref ar, .int 0, .int 0, .int 0, .int 0, .int 0, .int 0, .ref az, .ref ae, .ref ao, .ref an, .ref au, .int 0, .int 0, .int 0, .ref ap, .ref aw, .int 0, .int 0, .int 0, .int 0, .int 0])), (am, .inl (tm, 512, .inl u.1)), (ar, .inl (tr, 8, .inl u.2.1)), (az, .inl (tz, 3, .inl rdy)), (ae, .inl (te, 3, .inl (fun _ => 0))), (ao, .inl (to, 3, .inl u.2.2.1)), (an, .inl (tn, 3, .inl u.2.2.2)), (au, .inl (tu, 3, .inl (fun _ => 0)))] t.heap ∧ va_K (dC, dI) vwCl [(tm, .int), (tr, .int), (tz, .boolean), (te, .boolean), (to, .boolean), (tn, .boolean), (tu, .int)] t ∧ va_D (va_A [(h0, .inr (8, [.int 0, .ref am, .ref ad, .ref ab, .int 0, .int 224, .ref ar, .int 0, .int 0, .int 0, .int 0, .int 0, .int 0, .ref az, .ref ae, .ref ao, .ref an, .ref au, .int 0, .int 0, .int 0, .ref ap, .ref aw, .int 0, .int 0, .int 0, .int 0, .int 0])), (am, .inl (tm, 512, .inl f)), (ar, .inl (tr, 8, .inl g)), (az, .inl (tz, 3, .inl rdy)), (ae, .inl (te, 3, .inl (fun _ => 0))), (ao, .inl (to, 3, .inl bo)), (an, .inl (tn, 3, .inl wa)), (au, .inl (tu, 3, .inl (fun _ => 0)))] sz) [(h0, .inr (8, [.int 0, .ref am, .ref ad, .ref ab, .int 0, .int 224, .ref ar, .int 0, .int 0, .int 0, .int 0, .int 0, .int 0, .ref az, .ref ae, .ref ao, .ref an, .ref au, .int 0, .int 0, .int 0, .ref ap, .ref aw, .int 0, .int 0, .int 0, .int 0, .int 0])), (am, .inl (tm, 512, .inl u.1)), (ar, .inl (tr, 8, .inl u.2.1)), (az, .inl (tz, 3, .inl rdy)), (ae, .inl (te, 3, .inl (fun _ => 0))), (ao, .inl (to, 3, .inl u.2.2.1)), (an, .inl (tn, 3, .inl u.2.2.2)), (au, .inl (tu, 3, .inl (fun _ => 0)))]) (va_A [(h0, .inr (8, [.int 0, .ref am, .ref ad, .ref ab, .int 0, .int 224, .ref ar, .int 0, .int 0, .int 0, .int 0, .int 0, .int 0, .ref az, .ref ae, .ref ao, .ref an, .ref au, .int 0, .int 0, .int 0, .ref ap, .ref aw, .int 0, .int 0, .int 0, .int 0, .int 0])), (am, .inl (tm, 512, .inl f)), (ar, .inl (tr, 8, .inl g)), (az, .inl (tz, 3, .inl rdy)), (ae, .inl (te, 3, .inl (fun _ => 0))), (ao, .inl (to, 3, .inl bo)), (an, .inl (tn, 3, .inl wa)), (au, .inl (tu, 3, .inl (fun _ => 0)))] sz)) 0 0 (va_A [(h0, .inr (8, [.int 0, .ref am, .ref ad, .ref ab, .int 0, .int 224, .ref ar, .int 0, .int 0, .int 0, .int 0, .int 0, .int 0, .ref az, .ref ae, .ref ao, .ref an, .ref au, .int 0, .int 0, .int 0, .ref ap, .ref aw, .int 0, .int 0, .int 0, .int 0, .int 0])), (am, .inl (tm, 512, .inl f)), (ar, .inl (tr, 8, .inl g)), (az, .inl (tz, 3, .inl rdy)), (ae, .inl (te, 3, .inl (fun _ => 0))), (ao, .inl (to, 3, .inl bo)), (an, .inl (tn, 3, .inl wa)), (au, .inl (tu, 3, .inl (fun _ => 0)))] sz) := by
  refine Met.ofW (cc := cX9_run) (maxL := 3) (ret := (some .int)) (by decide) rfl ?_
  intro p e s m args below meth c s₁ B hml hv
  obtain ⟨rfl, hsz, hP, hK, hD0⟩ := hv
  have hx := B.exec
  have hb := B.bytes
  have hr := B.returns
  have hts := atoms_spec (ws := wsX9_run) B.pre
  have hown : s.vm.findClass RX9 = some m.cls := findClass_of_methodNamed B.named
  have hlocks := B.notSynchronized
  have hD := hD0.self (sz := sz)
  generalize hAe : va_A [(h0, .inr (8, [.int 0, .ref am, .ref ad, .ref ab, .int 0, .int 224, .ref ar, .int 0, .int 0, .int 0, .int 0, .int 0, .int 0, .ref az, .ref ae, .ref ao, .ref an, .ref au, .int 0, .int 0, .int 0, .ref ap, .ref aw, .int 0, .int 0, .int 0, .int 0, .int 0])), (am, .inl (tm, 512, .inl f)), (ar, .inl (tr, 8, .inl g)), (az, .inl (tz, 3, .inl rdy)), (ae, .inl (te, 3, .inl (fun _ => 0))), (ao, .inl (to, 3, .inl bo)), (an, .inl (tn, 3, .inl wa)), (au, .inl (tu, 3, .inl (fun _ => 0)))] sz = A at hD ⊢
  have hA : ∀ q : Nat, s.heap.size ≤ q → A q := fun q h => by rw [← hAe]; exact Or.inr (by omega)
  have hS0 : ∀ G : Heap, s.heap = G → va_S A s.heap G [] := fun G h => by subst h; exact va_S.rf
  generalize hHe : s.heap = H at hP ⊢
  have hS := hS0 H hHe
  have hP : va_P (dC, dI) vwCl [(h0, .inr (8, [.int 0, .ref am, .ref ad, .ref ab, .int 0, .int 224, .ref ar, .int 0, .int 0, .int 0, .int 0, .int 0, .int 0, .ref az, .ref ae, .ref ao, .ref an, .ref au, .int 0, .int 0, .int 0, .ref ap, .ref aw, .int 0, .int 0, .int 0, .int 0, .int 0])), (am, .inl (tm, 512, .inl f)), (ar, .inl (tr, 8, .inl g)), (az, .inl (tz, 3, .inl rdy)), (ae, .inl (te, 3, .inl (fun _ => 0))), (ao, .inl (to, 3, .inl bo)), (an, .inl (tn, 3, .inl wa)), (au, .inl (tu, 3, .inl (fun _ => 0)))] H := hP
  have hD : va_D A [(h0, .inr (8, [.int 0, .ref am, .ref ad, .ref ab, .int 0, .int 224, .ref ar, .int 0, .int 0, .int 0, .int 0, .int 0, .int 0, .ref az, .ref ae, .ref ao, .ref an, .ref au, .int 0, .int 0, .int 0, .ref ap, .ref aw, .int 0, .int 0, .int 0, .int 0, .int 0])), (am, .inl (tm, 512, .inl f)), (ar, .inl (tr, 8, .inl g)), (az, .inl (tz, 3, .inl rdy)), (ae, .inl (te, 3, .inl (fun _ => 0))), (ao, .inl (to, 3, .inl bo)), (an, .inl (tn, 3, .inl wa)), (au, .inl (tu, 3, .inl (fun _ => 0)))] := hD
  have hK : va_K (dC, dI) vwCl [(tm, .int), (tr, .int), (tz, .boolean), (te, .boolean), (to, .boolean), (tn, .boolean), (tu, .int)] s := hK
  have hl := lv_entry ([.ref h0, .int 4]) (n := 3) (Nat.le_of_ble_eq_true rfl)
  rw [lg_entry_eq]
  generalize (lg_sl ([.ref h0, .int 4]) ++ List.replicate (3 - (lg_sl ([.ref h0, .int 4])).length) Slot.unset).toArray = ls at hl ⊢
  have hl : lv_has ls 3 [(0, .ref h0), (1, .int 4)] := hl
  refine lv_aload_n hx hb dX9_run_0 rfl (lv_at hl 0 rfl) ?_
  refine lv_iload_n hx hb dX9_run_1 rfl (lv_at hl 1 rfl) ?_
  refine lv_iconst (v := 1) hx hb dX9_run_2 (by decide) ?_
  refine lv_icmp_lt (tgt := 12) hx hb dX9_run_3 (by decide) (fun c1 => ?_) (fun c1 => ?_)
  · exact absurd c1 (by decide)
  · skip
    refine lv_iload_n hx hb dX9_run_6 rfl (lv_at hl 1 rfl) ?_
    refine lv_bipush (v := 40) hx hb dX9_run_7 (by decide) ?_
    refine lv_icmp_le (tgt := 16) hx hb dX9_run_9 (by decide) (fun c2 => ?_) (fun c2 => ?_)
    · skip
      refine lv_aload_n hx hb dX9_run_16 rfl (lv_at hl 0 rfl) ?_
      refine va_get (D := (dC, dI)) (ci := 8) (v := .int 0) (C := RX9) (T := TX9) (N := 28) hx hb hts (by decide +kernel) hown hK hP 0 rfl rfl 9 (by decide) (hts (.fieldLink RX9 22 "UnibusMachineModel" "state" "I") (by decide +kernel)) (fun _ h9 => h9) rfl dX9_run_17 ?_
      refine lv_iconst (v := 1) hx hb dX9_run_20 (by decide) ?_
      refine lv_icmp_le (tgt := 28) hx hb dX9_run_21 (by decide) (fun c3 => ?_) (fun c3 => ?_)
      · skip
        refine lv_iconst (v := 0) hx hb dX9_run_28 (by decide) ?_
        refine va_put (D := (dC, dI)) (ci := 8) (v := .int 0) (ty := .int) (C := RX9) (T := TX9) (N := 28) hx hb hts (by decide +kernel) tyX9 tyX9_ok nmX9 hown hK hP hD hS 0 rfl rfl 0 (by decide) (hts (.fieldLink RX9 48 "UnibusMachineModel" "thrown" "I") (by decide +kernel)) (fun _ h9 => h9) rfl (by decide +kernel) rfl rfl (Nat.le_of_ble_eq_true rfl) dX9_run_29 (fun H locs hP hD hS => ?_)
        have hP : va_P (dC, dI) vwCl [(h0, .inr (8, [.int 0, .ref am, .ref ad, .ref ab, .int 0, .int 224, .ref ar, .int 0, .int 0, .int 0, .int 0, .int 0, .int 0, .ref az, .ref ae, .ref ao, .ref an, .ref au, .int 0, .int 0, .int 0, .ref ap, .ref aw, .int 0, .int 0, .int 0, .int 0, .int 0])), (am, .inl (tm, 512, .inl f)), (ar, .inl (tr, 8, .inl g)), (az, .inl (tz, 3, .inl rdy)), (ae, .inl (te, 3, .inl (fun _ => 0))), (ao, .inl (to, 3, .inl bo)), (an, .inl (tn, 3, .inl wa)), (au, .inl (tu, 3, .inl (fun _ => 0)))] H := hP
        have hD : va_D A [(h0, .inr (8, [.int 0, .ref am, .ref ad, .ref ab, .int 0, .int 224, .ref ar, .int 0, .int 0, .int 0, .int 0, .int 0, .int 0, .ref az, .ref ae, .ref ao, .ref an, .ref au, .int 0, .int 0, .int 0, .ref ap, .ref aw, .int 0, .int 0, .int 0, .int 0, .int 0])), (am, .inl (tm, 512, .inl f)), (ar, .inl (tr, 8, .inl g)), (az, .inl (tz, 3, .inl rdy)), (ae, .inl (te, 3, .inl (fun _ => 0))), (ao, .inl (to, 3, .inl bo)), (an, .inl (tn, 3, .inl wa)), (au, .inl (tu, 3, .inl (fun _ => 0)))] := hD
        refine lv_iconst (v := 0) hx hb dX9_run_32 (by decide) ?_
        refine lv_istore_n (lv' := [(2, .int 0), (0, .ref h0), (1, .int 4)]) hx hb dX9_run_33 rfl hl (by decide) rfl (fun ls hl => ?_)
        refine lv_iload_n hx hb dX9_run_34 rfl (lv_at hl 0 rfl) ?_
        refine lv_iload_n hx hb dX9_run_35 rfl (lv_at hl 2 rfl) ?_
        refine lv_icmp_ge (tgt := 103) hx hb dX9_run_36 (by decide) (fun c4 => ?_) (fun c4 => ?_)
        · exact absurd c4 (by decide)
        · skip
          refine lv_aload_n hx hb dX9_run_39 rfl (lv_at hl 1 rfl) ?_
          refine va_get (D := (dC, dI)) (ci := 8) (v := .int 0) (C := RX9) (T := TX9) (N := 28) hx hb hts (by decide +kernel) hown hK hP 0 rfl rfl 9 (by decide) (hts (.fieldLink RX9 22 "UnibusMachineModel" "state" "I") (by decide +kernel)) (fun _ h9 => h9) rfl dX9_run_40 ?_
          refine lv_iconst (v := 2) hx hb dX9_run_43 (by decide) ?_
          refine lv_icmp_ge (tgt := 103) hx hb dX9_run_44 (by decide) (fun c5 => ?_) (fun c5 => ?_)
          · exact absurd c5 (by decide)
          · skip
            refine lv_aload_n hx hb dX9_run_47 rfl (lv_at hl 1 rfl) ?_
            refine va_get (D := (dC, dI)) (ci := 8) (v := .int 0) (C := RX9) (T := TX9) (N := 28) hx hb hts (by decide +kernel) hown hK hP 0 rfl rfl 0 (by decide) (hts (.fieldLink RX9 48 "UnibusMachineModel" "thrown" "I") (by decide +kernel)) (fun _ h9 => h9) rfl dX9_run_48 ?_
            refine lv_if_ne (tgt := 103) hx hb dX9_run_51 (by decide) (fun c6 => ?_) (fun c6 => ?_)
            · exact absurd c6 (by decide)
            · skip
              refine lv_aload_n hx hb dX9_run_54 rfl (lv_at hl 1 rfl) ?_
              refine va_get (D := (dC, dI)) (ci := 8) (v := .int 0) (C := RX9) (T := TX9) (N := 28) hx hb hts (by decide +kernel) hown hK hP 0 rfl rfl 9 (by decide) (hts (.fieldLink RX9 22 "UnibusMachineModel" "state" "I") (by decide +kernel)) (fun _ h9 => h9) rfl dX9_run_55 ?_
              refine lv_if_ne (tgt := 85) hx hb dX9_run_58 (by decide) (fun c7 => ?_) (fun c7 => ?_)
              · exact absurd c7 (by decide)
              · skip
                refine lv_aload_n hx hb dX9_run_61 rfl (lv_at hl 1 rfl) ?_
                refine lv_iconst (v := 0) hx hb dX9_run_62 (by decide) ?_
                refine va_put (D := (dC, dI)) (ci := 8) (v := .int 0) (ty := .int) (C := RX9) (T := TX9) (N := 28) hx hb hts (by decide +kernel) tyX9 tyX9_ok nmX9 hown hK hP hD hS 0 rfl rfl 10 (by decide) (hts (.fieldLink RX9 87 "UnibusMachineModel" "wrong" "I") (by decide +kernel)) (fun _ h9 => h9) rfl (by decide +kernel) rfl rfl (Nat.le_of_ble_eq_true rfl) dX9_run_63 (fun H locs hP hD hS => ?_)
                have hP : va_P (dC, dI) vwCl [(h0, .inr (8, [.int 0, .ref am, .ref ad, .ref ab, .int 0, .int 224, .ref ar, .int 0, .int 0, .int 0, .int 0, .int 0, .int 0, .ref az, .ref ae, .ref ao, .ref an, .ref au, .int 0, .int 0, .int 0, .ref ap, .ref aw, .int 0, .int 0, .int 0, .int 0, .int 0])), (am, .inl (tm, 512, .inl f)), (ar, .inl (tr, 8, .inl g)), (az, .inl (tz, 3, .inl rdy)), (ae, .inl (te, 3, .inl (fun _ => 0))), (ao, .inl (to, 3, .inl bo)), (an, .inl (tn, 3, .inl wa)), (au, .inl (tu, 3, .inl (fun _ => 0)))] H := hP
                have hD : va_D A [(h0, .inr (8, [.int 0, .ref am, .ref ad, .ref ab, .int 0, .int 224, .ref ar, .int 0, .int 0, .int 0, .int 0, .int 0, .int 0, .ref az, .ref ae, .ref ao, .ref an, .ref au, .int 0, .int 0, .int 0, .ref ap, .ref aw, .int 0, .int 0, .int 0, .int 0, .int 0])), (am, .inl (tm, 512, .inl f)), (ar, .inl (tr, 8, .inl g)), (az, .inl (tz, 3, .inl rdy)), (ae, .inl (te, 3, .inl (fun _ => 0))), (ao, .inl (to, 3, .inl bo)), (an, .inl (tn, 3, .inl wa)), (au, .inl (tu, 3, .inl (fun _ => 0)))] := hD
                refine lv_aload_n hx hb dX9_run_66 rfl (lv_at hl 1 rfl) ?_
                have hPc := hP.sub (ws' := [(h0, .inr (8, [.int 0, .ref am, .ref ad, .ref ab, .int 0, .int 224, .ref ar, .int 0, .int 0, .int 0, .int 0, .int 0, .int 0, .ref az, .ref ae, .ref ao, .ref an, .ref au, .int 0, .int 0, .int 0, .ref ap, .ref aw, .int 0, .int 0, .int 0, .int 0, .int 0])), (ar, .inl (tr, 8, .inl g))]) [0, 2] rfl
                have hDc := hD.sub (ws' := [(h0, .inr (8, [.int 0, .ref am, .ref ad, .ref ab, .int 0, .int 224, .ref ar, .int 0, .int 0, .int 0, .int 0, .int 0, .int 0, .ref az, .ref ae, .ref ao, .ref an, .ref au, .int 0, .int 0, .int 0, .ref ap, .ref aw, .int 0, .int 0, .int 0, .int 0, .int 0])), (ar, .inl (tr, 8, .inl g))]) [0, 2] (by decide) rfl
                have hKc := hK.sub (tys' := [(tr, .int)]) [1] rfl
                have hFc := va_free (wc := [(h0, .inr (8, [.int 0, .ref am, .ref ad, .ref ab, .int 0, .int 224, .ref ar, .int 0, .int 0, .int 0, .int 0, .int 0, .int 0, .ref az, .ref ae, .ref ao, .ref an, .ref au, .int 0, .int 0, .int 0, .ref ap, .ref aw, .int 0, .int 0, .int 0, .int 0, .int 0])), (ar, .inl (tr, 8, .inl g))]) hD hS hA [0, 2] rfl
                refine va_callv (va_runV (As := []) (rest := []) ⟨hx, hb, hml, hown, hts⟩ (c_m_step l dC dI h0 am ad ab ar az ae ao an au ap aw tr g H.size (by first | assumption | omega | decide)) (cwV 0 hts gX9_run_X9_step rfl rfl rfl (by decide +kernel) ⟨Nat.le_of_ble_eq_true rfl, Nat.le_of_ble_eq_true rfl⟩) ⟨fun a U g mk q => by obtain ⟨q0, q1, qP, qK, qD⟩ := q; exact ⟨q0, q1, qP, va_K.moved (u := U) (U := U.calling g mk a) (Vm.Alike.refl U.vm) qK, qD⟩, va_recv hKc hPc (ci := 8) (q0 := 0) rfl rfl, fun U hU hW => ⟨rfl, by rw [hU], by rw [hU]; exact hPc, va_K.moved hW.alike hKc, hDc.weaken (fun _ _ _ _ => trivial)⟩⟩ rfl rfl hl.1 rfl (lv_room (Nat.le_of_ble_eq_true rfl)) dX9_run_67 ⟨Nat.le_of_ble_eq_true rfl, Nat.le_of_ble_eq_true rfl⟩) hS (fun q _ h => hFc q h) hFc (fun u9 t H1 locs ht hvm hw hB hz1 hk1 hS => ?_)
                obtain ⟨hP1, hK1, hD1⟩ := hB
                rw [ht] at hP1
                have hK1 := va_K.moved hvm.symm hK1
                try dsimp only at hw
                obtain ⟨hP, hD⟩ := va_join (wr := [(am, .inl (tm, 512, .inl f)), (az, .inl (tz, 3, .inl rdy)), (ae, .inl (te, 3, .inl (fun _ => 0))), (ao, .inl (to, 3, .inl bo)), (an, .inl (tn, 3, .inl wa)), (au, .inl (tu, 3, .inl (fun _ => 0)))]) (w1 := [(h0, .inr (8, [.int 0, .ref am, .ref ad, .ref ab, .int 0, .int 224, .ref ar, .int 0, .int 0, .int 0, .int 4, .int 0, .int 0, .ref az, .ref ae, .ref ao, .ref an, .ref au, .int 0, .int 0, .int 0, .ref ap, .ref aw, .int 0, .int 0, .int 0, .int 0, .int 0])), (ar, .inl (tr, 8, .inl g))]) hP hD [0, 2] [1, 3, 4, 5, 6, 7] rfl rfl (by decide) (by decide) hk1 hFc hP1 hD1
                have hK := (hK.sub (tys' := [(tm, .int), (tz, .boolean), (te, .boolean), (to, .boolean), (tn, .boolean), (tu, .int)]) [0, 2, 3, 4, 5, 6] rfl).app hK1
                generalize H1 = H at hP hS ⊢
                have hP : va_P (dC, dI) vwCl [(am, .inl (tm, 512, .inl f)), (az, .inl (tz, 3, .inl rdy)), (ae, .inl (te, 3, .inl (fun _ => 0))), (ao, .inl (to, 3, .inl bo)), (an, .inl (tn, 3, .inl wa)), (au, .inl (tu, 3, .inl (fun _ => 0))), (h0, .inr (8, [.int 0, .ref am, .ref ad, .ref ab, .int 0, .int 224, .ref ar, .int 0, .int 0, .int 0, .int 4, .int 0, .int 0, .ref az, .ref ae, .ref ao, .ref an, .ref au, .int 0, .int 0, .int 0, .ref ap, .ref aw, .int 0, .int 0, .int 0, .int 0, .int 0])), (ar, .inl (tr, 8, .inl g))] H := hP
                have hD : va_D A [(am, .inl (tm, 512, .inl f)), (az, .inl (tz, 3, .inl rdy)), (ae, .inl (te, 3, .inl (fun _ => 0))), (ao, .inl (to, 3, .inl bo)), (an, .inl (tn, 3, .inl wa)), (au, .inl (tu, 3, .inl (fun _ => 0))), (h0, .inr (8, [.int 0, .ref am, .ref ad, .ref ab, .int 0, .int 224, .ref ar, .int 0, .int 0, .int 0, .int 4, .int 0, .int 0, .ref az, .ref ae, .ref ao, .ref an, .ref au, .int 0, .int 0, .int 0, .ref ap, .ref aw, .int 0, .int 0, .int 0, .int 0, .int 0])), (ar, .inl (tr, 8, .inl g))] := hD
                have hK : va_K (dC, dI) vwCl [(tm, .int), (tz, .boolean), (te, .boolean), (to, .boolean), (tn, .boolean), (tu, .int), (tr, .int)] s := hK
                refine W.widen (k := 0) (n := 0) (Nat.le_of_ble_eq_true rfl) (Nat.le_of_ble_eq_true rfl) ?_
                refine lv_aload_n hx hb dX9_run_70 rfl (lv_at hl 1 rfl) ?_
                refine va_get (D := (dC, dI)) (ci := 8) (v := .int 4) (C := RX9) (T := TX9) (N := 28) hx hb hts (by decide +kernel) hown hK hP 6 rfl rfl 10 (by decide) (hts (.fieldLink RX9 87 "UnibusMachineModel" "wrong" "I") (by decide +kernel)) (fun _ h9 => h9) rfl dX9_run_71 ?_
                refine lv_if_le (tgt := 85) hx hb dX9_run_74 (by decide) (fun c10 => ?_) (fun c10 => ?_)
                · exact absurd c10 (by decide)
                · skip
                  refine lv_aload_n hx hb dX9_run_77 rfl (lv_at hl 1 rfl) ?_
                  refine lv_aload_n hx hb dX9_run_78 rfl (lv_at hl 1 rfl) ?_
                  refine va_get (D := (dC, dI)) (ci := 8) (v := .int 4) (C := RX9) (T := TX9) (N := 28) hx hb hts (by decide +kernel) hown hK hP 6 rfl rfl 10 (by decide) (hts (.fieldLink RX9 87 "UnibusMachineModel" "wrong" "I") (by decide +kernel)) (fun _ h9 => h9) rfl dX9_run_79 ?_
                  have hPc := hP.sub (ws' := [(h0, .inr (8, [.int 0, .ref am, .ref ad, .ref ab, .int 0, .int 224, .ref ar, .int 0, .int 0, .int 0, .int 4, .int 0, .int 0, .ref az, .ref ae, .ref ao, .ref an, .ref au, .int 0, .int 0, .int 0, .ref ap, .ref aw, .int 0, .int 0, .int 0, .int 0, .int 0])), (am, .inl (tm, 512, .inl f)), (ar, .inl (tr, 8, .inl g))]) [6, 0, 7] rfl
                  have hDc := hD.sub (ws' := [(h0, .inr (8, [.int 0, .ref am, .ref ad, .ref ab, .int 0, .int 224, .ref ar, .int 0, .int 0, .int 0, .int 4, .int 0, .int 0, .ref az, .ref ae, .ref ao, .ref an, .ref au, .int 0, .int 0, .int 0, .ref ap, .ref aw, .int 0, .int 0, .int 0, .int 0, .int 0])), (am, .inl (tm, 512, .inl f)), (ar, .inl (tr, 8, .inl g))]) [6, 0, 7] (by decide) rfl
                  have hKc := hK.sub (tys' := [(tm, .int), (tr, .int)]) [0, 6] rfl
                  have hFc := va_free (wc := [(h0, .inr (8, [.int 0, .ref am, .ref ad, .ref ab, .int 0, .int 224, .ref ar, .int 0, .int 0, .int 0, .int 4, .int 0, .int 0, .ref az, .ref ae, .ref ao, .ref an, .ref au, .int 0, .int 0, .int 0, .ref ap, .ref aw, .int 0, .int 0, .int 0, .int 0, .int 0])), (am, .inl (tm, 512, .inl f)), (ar, .inl (tr, 8, .inl g))]) hD hS hA [6, 0, 7] rfl
                  refine va_callv (va_runV (As := [.int 4]) (rest := []) ⟨hx, hb, hml, hown, hts⟩ (c_m_trap l dC dI h0 am ad ab ar az ae ao an au ap aw tm tr f g z H.size (by first | assumption | omega | decide) (by first | assumption | omega | decide) (by first | assumption | omega | decide) (by first | assumption | omega | decide) (by first | assumption | omega | decide) (by first | assumption | omega | decide) (by first | assumption | omega | decide) (by first | assumption | omega | decide)) (cwV 1 hts gX9_run_X9_trap rfl rfl rfl (by decide +kernel) ⟨Nat.le_of_ble_eq_true rfl, Nat.le_of_ble_eq_true rfl⟩) ⟨fun a U g mk q => by obtain ⟨q0, q1, qP, qK, qD⟩ := q; exact ⟨q0, q1, qP, va_K.moved (u := U) (U := U.calling g mk a) (Vm.Alike.refl U.vm) qK, qD⟩, va_recv hKc hPc (ci := 8) (q0 := 0) rfl rfl, fun U hU hW => ⟨rfl, by rw [hU], by rw [hU]; exact hPc, va_K.moved hW.alike hKc, hDc.weaken (fun _ _ _ _ => trivial)⟩⟩ rfl rfl hl.1 rfl (lv_room (Nat.le_of_ble_eq_true rfl)) dX9_run_82 ⟨Nat.le_of_ble_eq_true rfl, Nat.le_of_ble_eq_true rfl⟩) hS (fun q _ h => hFc q h) hFc (fun u12 t H1 locs ht hvm hw hB hz1 hk1 hS => ?_)
                  obtain ⟨hP1, hK1, hD1⟩ := hB
                  rw [ht] at hP1
                  have hK1 := va_K.moved hvm.symm hK1
                  try dsimp only at hw
                  obtain ⟨hP, hD⟩ := va_join (wr := [(az, .inl (tz, 3, .inl rdy)), (ae, .inl (te, 3, .inl (fun _ => 0))), (ao, .inl (to, 3, .inl bo)), (an, .inl (tn, 3, .inl wa)), (au, .inl (tu, 3, .inl (fun _ => 0)))]) (w1 := [(h0, .inr (8, [.int 0, .ref am, .ref ad, .ref ab, .int 0, .int 224, .ref ar, .int 0, .int 0, .int 0, .int 0, .int 0, .int 0, .ref az, .ref ae, .ref ao, .ref an, .ref au, .int 0, .int 0, .int 0, .ref ap, .ref aw, .int 0, .int 0, .int 0, .int 0, .int 0])), (am, .inl (tm, 512, .inl u12.1)), (ar, .inl (tr, 8, .inl u12.2))]) hP hD [6, 0, 7] [1, 2, 3, 4, 5] rfl rfl (by decide) (by decide) hk1 hFc hP1 hD1
                  have hK := (hK.sub (tys' := [(tz, .boolean), (te, .boolean), (to, .boolean), (tn, .boolean), (tu, .int)]) [1, 2, 3, 4, 5] rfl).app hK1
                  generalize H1 = H at hP hS ⊢
                  have hP : va_P (dC, dI) vwCl [(az, .inl (tz, 3, .inl rdy)), (ae, .inl (te, 3, .inl (fun _ => 0))), (ao, .inl (to, 3, .inl bo)), (an, .inl (tn, 3, .inl wa)), (au, .inl (tu, 3, .inl (fun _ => 0))), (h0, .inr (8, [.int 0, .ref am, .ref ad, .ref ab, .int 0, .int 224, .ref ar, .int 0, .int 0, .int 0, .int 0, .int 0, .int 0, .ref az, .ref ae, .ref ao, .ref an, .ref au, .int 0, .int 0, .int 0, .ref ap, .ref aw, .int 0, .int 0, .int 0, .int 0, .int 0])), (am, .inl (tm, 512, .inl u12.1)), (ar, .inl (tr, 8, .inl u12.2))] H := hP
                  have hD : va_D A [(az, .inl (tz, 3, .inl rdy)), (ae, .inl (te, 3, .inl (fun _ => 0))), (ao, .inl (to, 3, .inl bo)), (an, .inl (tn, 3, .inl wa)), (au, .inl (tu, 3, .inl (fun _ => 0))), (h0, .inr (8, [.int 0, .ref am, .ref ad, .ref ab, .int 0, .int 224, .ref ar, .int 0, .int 0, .int 0, .int 0, .int 0, .int 0, .ref az, .ref ae, .ref ao, .ref an, .ref au, .int 0, .int 0, .int 0, .ref ap, .ref aw, .int 0, .int 0, .int 0, .int 0, .int 0])), (am, .inl (tm, 512, .inl u12.1)), (ar, .inl (tr, 8, .inl u12.2))] := hD
                  have hK : va_K (dC, dI) vwCl [(tz, .boolean), (te, .boolean), (to, .boolean), (tn, .boolean), (tu, .int), (tm, .int), (tr, .int)] s := hK
                  refine W.widen (k := 0) (n := 0) (Nat.le_of_ble_eq_true rfl) (Nat.le_of_ble_eq_true rfl) ?_
                  obtain ⟨_, _, _, _, _⟩ := hw
                  refine lv_aload_n hx hb dX9_run_85 rfl (lv_at hl 1 rfl) ?_
                  refine va_get (D := (dC, dI)) (ci := 8) (v := .int 0) (C := RX9) (T := TX9) (N := 28) hx hb hts (by decide +kernel) hown hK hP 5 rfl rfl 9 (by decide) (hts (.fieldLink RX9 22 "UnibusMachineModel" "state" "I") (by decide +kernel)) (fun _ h9 => h9) rfl dX9_run_86 ?_
                  refine lv_iconst (v := 2) hx hb dX9_run_89 (by decide) ?_
                  refine lv_icmp_ge (tgt := 97) hx hb dX9_run_90 (by decide) (fun c13 => ?_) (fun c13 => ?_)
                  · exact absurd c13 (by decide)
                  · skip
                    refine lv_aload_n hx hb dX9_run_93 rfl (lv_at hl 1 rfl) ?_
                    have hPc := hP.sub (ws' := [(h0, .inr (8, [.int 0, .ref am, .ref ad, .ref ab, .int 0, .int 224, .ref ar, .int 0, .int 0, .int 0, .int 0, .int 0, .int 0, .ref az, .ref ae, .ref ao, .ref an, .ref au, .int 0, .int 0, .int 0, .ref ap, .ref aw, .int 0, .int 0, .int 0, .int 0, .int 0])), (az, .inl (tz, 3, .inl rdy)), (ae, .inl (te, 3, .inl (fun _ => 0))), (ao, .inl (to, 3, .inl bo)), (an, .inl (tn, 3, .inl wa)), (au, .inl (tu, 3, .inl (fun _ => 0)))]) [5, 0, 1, 2, 3, 4] rfl
                    have hDc := hD.sub (ws' := [(h0, .inr (8, [.int 0, .ref am, .ref ad, .ref ab, .int 0, .int 224, .ref ar, .int 0, .int 0, .int 0, .int 0, .int 0, .int 0, .ref az, .ref ae, .ref ao, .ref an, .ref au, .int 0, .int 0, .int 0, .ref ap, .ref aw, .int 0, .int 0, .int 0, .int 0, .int 0])), (az, .inl (tz, 3, .inl rdy)), (ae, .inl (te, 3, .inl (fun _ => 0))), (ao, .inl (to, 3, .inl bo)), (an, .inl (tn, 3, .inl wa)), (au, .inl (tu, 3, .inl (fun _ => 0)))]) [5, 0, 1, 2, 3, 4] (by decide) rfl
                    have hKc := hK.sub (tys' := [(tz, .boolean), (te, .boolean), (to, .boolean), (tn, .boolean), (tu, .int)]) [0, 1, 2, 3, 4] rfl
                    have hFc := va_free (wc := [(h0, .inr (8, [.int 0, .ref am, .ref ad, .ref ab, .int 0, .int 224, .ref ar, .int 0, .int 0, .int 0, .int 0, .int 0, .int 0, .ref az, .ref ae, .ref ao, .ref an, .ref au, .int 0, .int 0, .int 0, .ref ap, .ref aw, .int 0, .int 0, .int 0, .int 0, .int 0])), (az, .inl (tz, 3, .inl rdy)), (ae, .inl (te, 3, .inl (fun _ => 0))), (ao, .inl (to, 3, .inl bo)), (an, .inl (tn, 3, .inl wa)), (au, .inl (tu, 3, .inl (fun _ => 0)))]) hD hS hA [5, 0, 1, 2, 3, 4] rfl
                    refine va_callv (va_runV (As := []) (rest := []) ⟨hx, hb, hml, hown, hts⟩ (c_m_goOn l dC dI h0 am ad ab ar az ae ao an au ap aw tz te to tn tu bo wa H.size) (cwV 0 hts gX9_run_X9_goOn rfl rfl rfl (by decide +kernel) ⟨Nat.le_of_ble_eq_true rfl, Nat.le_of_ble_eq_true rfl⟩) ⟨fun a U g mk q => by obtain ⟨q0, q1, qP, qK, qD⟩ := q; exact ⟨q0, q1, qP, va_K.moved (u := U) (U := U.calling g mk a) (Vm.Alike.refl U.vm) qK, qD⟩, va_recv hKc hPc (ci := 8) (q0 := 0) rfl rfl, fun U hU hW => ⟨rfl, by rw [hU], by rw [hU]; exact hPc, va_K.moved hW.alike hKc, hDc.weaken (fun _ _ _ _ => trivial)⟩⟩ rfl rfl hl.1 rfl (lv_room (Nat.le_of_ble_eq_true rfl)) dX9_run_94 ⟨Nat.le_of_ble_eq_true rfl, Nat.le_of_ble_eq_true rfl⟩) hS (fun q _ h => hFc q h) hFc (fun u15 t H1 locs ht hvm hw hB hz1 hk1 hS => ?_)
                    obtain ⟨hP1, hK1, hD1⟩ := hB
                    rw [ht] at hP1
                    have hK1 := va_K.moved hvm.symm hK1
                    try dsimp only at hw
                    obtain ⟨hP, hD⟩ := va_join (wr := [(am, .inl (tm, 512, .inl u12.1)), (ar, .inl (tr, 8, .inl u12.2))]) (w1 := [(h0, .inr (8, [.int 0, .ref am, .ref ad, .ref ab, .int 0, .int 224, .ref ar, .int 0, .int 0, .int 0, .int 0, .int 0, .int 0, .ref az, .ref ae, .ref ao, .ref an, .ref au, .int 0, .int 0, .int 0, .ref ap, .ref aw, .int 0, .int 0, .int 0, .int 0, .int 0])), (az, .inl (tz, 3, .inl rdy)), (ae, .inl (te, 3, .inl (fun _ => 0))), (ao, .inl (to, 3, .inl u15.1)), (an, .inl (tn, 3, .inl u15.2)), (au, .inl (tu, 3, .inl (fun _ => 0)))]) hP hD [5, 0, 1, 2, 3, 4] [6, 7] rfl rfl (by decide) (by decide) hk1 hFc hP1 hD1
                    have hK := (hK.sub (tys' := [(tm, .int), (tr, .int)]) [5, 6] rfl).app hK1
                    generalize H1 = H at hP hS ⊢
                    have hP : va_P (dC, dI) vwCl [(am, .inl (tm, 512, .inl u12.1)), (ar, .inl (tr, 8, .inl u12.2)), (h0, .inr (8, [.int 0, .ref am, .ref ad, .ref ab, .int 0, .int 224, .ref ar, .int 0, .int 0, .int 0, .int 0, .int 0, .int 0, .ref az, .ref ae, .ref ao, .ref an, .ref au, .int 0, .int 0, .int 0, .ref ap, .ref aw, .int 0, .int 0, .int 0, .int 0, .int 0])), (az, .inl (tz, 3, .inl rdy)), (ae, .inl (te, 3, .inl (fun _ => 0))), (ao, .inl (to, 3, .inl u15.1)), (an, .inl (tn, 3, .inl u15.2)), (au, .inl (tu, 3, .inl (fun _ => 0)))] H := hP
                    have hD : va_D A [(am, .inl (tm, 512, .inl u12.1)), (ar, .inl (tr, 8, .inl u12.2)), (h0, .inr (8, [.int 0, .ref am, .ref ad, .ref ab, .int 0, .int 224, .ref ar, .int 0, .int 0, .int 0, .int 0, .int 0, .int 0, .ref az, .ref ae, .ref ao, .ref an, .ref au, .int 0, .int 0, .int 0, .ref ap, .ref aw, .int 0, .int 0, .int 0, .int 0, .int 0])), (az, .inl (tz, 3, .inl rdy)), (ae, .inl (te, 3, .inl (fun _ => 0))), (ao, .inl (to, 3, .inl u15.1)), (an, .inl (tn, 3, .inl u15.2)), (au, .inl (tu, 3, .inl (fun _ => 0)))] := hD
                    have hK : va_K (dC, dI) vwCl [(tm, .int), (tr, .int), (tz, .boolean), (te, .boolean), (to, .boolean), (tn, .boolean), (tu, .int)] s := hK
                    refine W.widen (k := 0) (n := 0) (Nat.le_of_ble_eq_true rfl) (Nat.le_of_ble_eq_true rfl) ?_
                    refine lv_iinc (v := 1) (lv' := [(2, .int 1), (0, .ref h0), (1, .int 4)]) hx hb dX9_run_97 hl (k := 0) rfl (by decide) (by decide) rfl (fun ls hl => ?_)
                    refine lv_goto (tgt := 34) hx hb dX9_run_100 (by decide) ?_
                    refine lv_iload_n hx hb dX9_run_34 rfl (lv_at hl 0 rfl) ?_
                    refine lv_iload_n hx hb dX9_run_35 rfl (lv_at hl 2 rfl) ?_
                    refine lv_icmp_ge (tgt := 103) hx hb dX9_run_36 (by decide) (fun c16 => ?_) (fun c16 => ?_)
                    · exact absurd c16 (by decide)
                    · skip
                      refine lv_aload_n hx hb dX9_run_39 rfl (lv_at hl 1 rfl) ?_
                      refine va_get (D := (dC, dI)) (ci := 8) (v := .int 0) (C := RX9) (T := TX9) (N := 28) hx hb hts (by decide +kernel) hown hK hP 2 rfl rfl 9 (by decide) (hts (.fieldLink RX9 22 "UnibusMachineModel" "state" "I") (by decide +kernel)) (fun _ h9 => h9) rfl dX9_run_40 ?_
                      refine lv_iconst (v := 2) hx hb dX9_run_43 (by decide) ?_
                      refine lv_icmp_ge (tgt := 103) hx hb dX9_run_44 (by decide) (fun c17 => ?_) (fun c17 => ?_)
                      · exact absurd c17 (by decide)
                      · skip
                        refine lv_aload_n hx hb dX9_run_47 rfl (lv_at hl 1 rfl) ?_
                        refine va_get (D := (dC, dI)) (ci := 8) (v := .int 0) (C := RX9) (T := TX9) (N := 28) hx hb hts (by decide +kernel) hown hK hP 2 rfl rfl 0 (by decide) (hts (.fieldLink RX9 48 "UnibusMachineModel" "thrown" "I") (by decide +kernel)) (fun _ h9 => h9) rfl dX9_run_48 ?_
                        refine lv_if_ne (tgt := 103) hx hb dX9_run_51 (by decide) (fun c18 => ?_) (fun c18 => ?_)
                        · exact absurd c18 (by decide)
                        · skip
                          refine lv_aload_n hx hb dX9_run_54 rfl (lv_at hl 1 rfl) ?_
                          refine va_get (D := (dC, dI)) (ci := 8) (v := .int 0) (C := RX9) (T := TX9) (N := 28) hx hb hts (by decide +kernel) hown hK hP 2 rfl rfl 9 (by decide) (hts (.fieldLink RX9 22 "UnibusMachineModel" "state" "I") (by decide +kernel)) (fun _ h9 => h9) rfl dX9_run_55 ?_
                          refine lv_if_ne (tgt := 85) hx hb dX9_run_58 (by decide) (fun c19 => ?_) (fun c19 => ?_)
                          · exact absurd c19 (by decide)
                          · skip
                            refine lv_aload_n hx hb dX9_run_61 rfl (lv_at hl 1 rfl) ?_
                            refine lv_iconst (v := 0) hx hb dX9_run_62 (by decide) ?_
                            refine va_put (D := (dC, dI)) (ci := 8) (v := .int 0) (ty := .int) (C := RX9) (T := TX9) (N := 28) hx hb hts (by decide +kernel) tyX9 tyX9_ok nmX9 hown hK hP hD hS 2 rfl rfl 10 (by decide) (hts (.fieldLink RX9 87 "UnibusMachineModel" "wrong" "I") (by decide +kernel)) (fun _ h9 => h9) rfl (by decide +kernel) rfl rfl (Nat.le_of_ble_eq_true rfl) dX9_run_63 (fun H locs hP hD hS => ?_)
                            have hP : va_P (dC, dI) vwCl [(am, .inl (tm, 512, .inl u12.1)), (ar, .inl (tr, 8, .inl u12.2)), (h0, .inr (8, [.int 0, .ref am, .ref ad, .ref ab, .int 0, .int 224, .ref ar, .int 0, .int 0, .int 0, .int 0, .int 0, .int 0, .ref az, .ref ae, .ref ao, .ref an, .ref au, .int 0, .int 0, .int 0, .ref ap, .ref aw, .int 0, .int 0, .int 0, .int 0, .int 0])), (az, .inl (tz, 3, .inl rdy)), (ae, .inl (te, 3, .inl (fun _ => 0))), (ao, .inl (to, 3, .inl u15.1)), (an, .inl (tn, 3, .inl u15.2)), (au, .inl (tu, 3, .inl (fun _ => 0)))] H := hP
                            have hD : va_D A [(am, .inl (tm, 512, .inl u12.1)), (ar, .inl (tr, 8, .inl u12.2)), (h0, .inr (8, [.int 0, .ref am, .ref ad, .ref ab, .int 0, .int 224, .ref ar, .int 0, .int 0, .int 0, .int 0, .int 0, .int 0, .ref az, .ref ae, .ref ao, .ref an, .ref au, .int 0, .int 0, .int 0, .ref ap, .ref aw, .int 0, .int 0, .int 0, .int 0, .int 0])), (az, .inl (tz, 3, .inl rdy)), (ae, .inl (te, 3, .inl (fun _ => 0))), (ao, .inl (to, 3, .inl u15.1)), (an, .inl (tn, 3, .inl u15.2)), (au, .inl (tu, 3, .inl (fun _ => 0)))] := hD
                            refine lv_aload_n hx hb dX9_run_66 rfl (lv_at hl 1 rfl) ?_
                            have hPc := hP.sub (ws' := [(h0, .inr (8, [.int 0, .ref am, .ref ad, .ref ab, .int 0, .int 224, .ref ar, .int 0, .int 0, .int 0, .int 0, .int 0, .int 0, .ref az, .ref ae, .ref ao, .ref an, .ref au, .int 0, .int 0, .int 0, .ref ap, .ref aw, .int 0, .int 0, .int 0, .int 0, .int 0])), (ar, .inl (tr, 8, .inl u12.2))]) [2, 1] rfl
                            have hDc := hD.sub (ws' := [(h0, .inr (8, [.int 0, .ref am, .ref ad, .ref ab, .int 0, .int 224, .ref ar, .int 0, .int 0, .int 0, .int 0, .int 0, .int 0, .ref az, .ref ae, .ref ao, .ref an, .ref au, .int 0, .int 0, .int 0, .ref ap, .ref aw, .int 0, .int 0, .int 0, .int 0, .int 0])), (ar, .inl (tr, 8, .inl u12.2))]) [2, 1] (by decide) rfl
                            have hKc := hK.sub (tys' := [(tr, .int)]) [1] rfl
                            have hFc := va_free (wc := [(h0, .inr (8, [.int 0, .ref am, .ref ad, .ref ab, .int 0, .int 224, .ref ar, .int 0, .int 0, .int 0, .int 0, .int 0, .int 0, .ref az, .ref ae, .ref ao, .ref an, .ref au, .int 0, .int 0, .int 0, .ref ap, .ref aw, .int 0, .int 0, .int 0, .int 0, .int 0])), (ar, .inl (tr, 8, .inl u12.2))]) hD hS hA [2, 1] rfl
                            refine va_callv (va_runV (As := []) (rest := []) ⟨hx, hb, hml, hown, hts⟩ (c_m_step l dC dI h0 am ad ab ar az ae ao an au ap aw tr u12.2 H.size (by first | assumption | omega | decide)) (cwV 0 hts gX9_run_X9_step rfl rfl rfl (by decide +kernel) ⟨Nat.le_of_ble_eq_true rfl, Nat.le_of_ble_eq_true rfl⟩) ⟨fun a U g mk q => by obtain ⟨q0, q1, qP, qK, qD⟩ := q; exact ⟨q0, q1, qP, va_K.moved (u := U) (U := U.calling g mk a) (Vm.Alike.refl U.vm) qK, qD⟩, va_recv hKc hPc (ci := 8) (q0 := 0) rfl rfl, fun U hU hW => ⟨rfl, by rw [hU], by rw [hU]; exact hPc, va_K.moved hW.alike hKc, hDc.weaken (fun _ _ _ _ => trivial)⟩⟩ rfl rfl hl.1 rfl (lv_room (Nat.le_of_ble_eq_true rfl)) dX9_run_67 ⟨Nat.le_of_ble_eq_true rfl, Nat.le_of_ble_eq_true rfl⟩) hS (fun q _ h => hFc q h) hFc (fun u21 t H1 locs ht hvm hw hB hz1 hk1 hS => ?_)
                            obtain ⟨hP1, hK1, hD1⟩ := hB
                            rw [ht] at hP1
                            have hK1 := va_K.moved hvm.symm hK1
                            try dsimp only at hw
                            obtain ⟨hP, hD⟩ := va_join (wr := [(am, .inl (tm, 512, .inl u12.1)), (az, .inl (tz, 3, .inl rdy)), (ae, .inl (te, 3, .inl (fun _ => 0))), (ao, .inl (to, 3, .inl u15.1)), (an, .inl (tn, 3, .inl u15.2)), (au, .inl (tu, 3, .inl (fun _ => 0)))]) (w1 := [(h0, .inr (8, [.int 0, .ref am, .ref ad, .ref ab, .int 0, .int 224, .ref ar, .int 0, .int 0, .int 0, .int 4, .int 0, .int 0, .ref az, .ref ae, .ref ao, .ref an, .ref au, .int 0, .int 0, .int 0, .ref ap, .ref aw, .int 0, .int 0, .int 0, .int 0, .int 0])), (ar, .inl (tr, 8, .inl u12.2))]) hP hD [2, 1] [0, 3, 4, 5, 6, 7] rfl rfl (by decide) (by decide) hk1 hFc hP1 hD1
                            have hK := (hK.sub (tys' := [(tm, .int), (tz, .boolean), (te, .boolean), (to, .boolean), (tn, .boolean), (tu, .int)]) [0, 2, 3, 4, 5, 6] rfl).app hK1
                            generalize H1 = H at hP hS ⊢
                            have hP : va_P (dC, dI) vwCl [(am, .inl (tm, 512, .inl u12.1)), (az, .inl (tz, 3, .inl rdy)), (ae, .inl (te, 3, .inl (fun _ => 0))), (ao, .inl (to, 3, .inl u15.1)), (an, .inl (tn, 3, .inl u15.2)), (au, .inl (tu, 3, .inl (fun _ => 0))), (h0, .inr (8, [.int 0, .ref am, .ref ad, .ref ab, .int 0, .int 224, .ref ar, .int 0, .int 0, .int 0, .int 4, .int 0, .int 0, .ref az, .ref ae, .ref ao, .ref an, .ref au, .int 0, .int 0, .int 0, .ref ap, .ref aw, .int 0, .int 0, .int 0, .int 0, .int 0])), (ar, .inl (tr, 8, .inl u12.2))] H := hP
                            have hD : va_D A [(am, .inl (tm, 512, .inl u12.1)), (az, .inl (tz, 3, .inl rdy)), (ae, .inl (te, 3, .inl (fun _ => 0))), (ao, .inl (to, 3, .inl u15.1)), (an, .inl (tn, 3, .inl u15.2)), (au, .inl (tu, 3, .inl (fun _ => 0))), (h0, .inr (8, [.int 0, .ref am, .ref ad, .ref ab, .int 0, .int 224, .ref ar, .int 0, .int 0, .int 0, .int 4, .int 0, .int 0, .ref az, .ref ae, .ref ao, .ref an, .ref au, .int 0, .int 0, .int 0, .ref ap, .ref aw, .int 0, .int 0, .int 0, .int 0, .int 0])), (ar, .inl (tr, 8, .inl u12.2))] := hD
                            have hK : va_K (dC, dI) vwCl [(tm, .int), (tz, .boolean), (te, .boolean), (to, .boolean), (tn, .boolean), (tu, .int), (tr, .int)] s := hK
                            refine W.widen (k := 0) (n := 0) (Nat.le_of_ble_eq_true rfl) (Nat.le_of_ble_eq_true rfl) ?_
                            refine lv_aload_n hx hb dX9_run_70 rfl (lv_at hl 1 rfl) ?_
                            refine va_get (D := (dC, dI)) (ci := 8) (v := .int 4) (C := RX9) (T := TX9) (N := 28) hx hb hts (by decide +kernel) hown hK hP 6 rfl rfl 10 (by decide) (hts (.fieldLink RX9 87 "UnibusMachineModel" "wrong" "I") (by decide +kernel)) (fun _ h9 => h9) rfl dX9_run_71 ?_
                            refine lv_if_le (tgt := 85) hx hb dX9_run_74 (by decide) (fun c22 => ?_) (fun c22 => ?_)
                            · exact absurd c22 (by decide)
                            · skip
                              refine lv_aload_n hx hb dX9_run_77 rfl (lv_at hl 1 rfl) ?_
                              refine lv_aload_n hx hb dX9_run_78 rfl (lv_at hl 1 rfl) ?_
                              refine va_get (D := (dC, dI)) (ci := 8) (v := .int 4) (C := RX9) (T := TX9) (N := 28) hx hb hts (by decide +kernel) hown hK hP 6 rfl rfl 10 (by decide) (hts (.fieldLink RX9 87 "UnibusMachineModel" "wrong" "I") (by decide +kernel)) (fun _ h9 => h9) rfl dX9_run_79 ?_
                              have hPc := hP.sub (ws' := [(h0, .inr (8, [.int 0, .ref am, .ref ad, .ref ab, .int 0, .int 224, .ref ar, .int 0, .int 0, .int 0, .int 4, .int 0, .int 0, .ref az, .ref ae, .ref ao, .ref an, .ref au, .int 0, .int 0, .int 0, .ref ap, .ref aw, .int 0, .int 0, .int 0, .int 0, .int 0])), (am, .inl (tm, 512, .inl u12.1)), (ar, .inl (tr, 8, .inl u12.2))]) [6, 0, 7] rfl
                              have hDc := hD.sub (ws' := [(h0, .inr (8, [.int 0, .ref am, .ref ad, .ref ab, .int 0, .int 224, .ref ar, .int 0, .int 0, .int 0, .int 4, .int 0, .int 0, .ref az, .ref ae, .ref ao, .ref an, .ref au, .int 0, .int 0, .int 0, .ref ap, .ref aw, .int 0, .int 0, .int 0, .int 0, .int 0])), (am, .inl (tm, 512, .inl u12.1)), (ar, .inl (tr, 8, .inl u12.2))]) [6, 0, 7] (by decide) rfl
                              have hKc := hK.sub (tys' := [(tm, .int), (tr, .int)]) [0, 6] rfl
                              have hFc := va_free (wc := [(h0, .inr (8, [.int 0, .ref am, .ref ad, .ref ab, .int 0, .int 224, .ref ar, .int 0, .int 0, .int 0, .int 4, .int 0, .int 0, .ref az, .ref ae, .ref ao, .ref an, .ref au, .int 0, .int 0, .int 0, .ref ap, .ref aw, .int 0, .int 0, .int 0, .int 0, .int 0])), (am, .inl (tm, 512, .inl u12.1)), (ar, .inl (tr, 8, .inl u12.2))]) hD hS hA [6, 0, 7] rfl
                              refine va_callv (va_runV (As := [.int 4]) (rest := []) ⟨hx, hb, hml, hown, hts⟩ (c_m_trap l dC dI h0 am ad ab ar az ae ao an au ap aw tm tr u12.1 u12.2 (z - 4) H.size (by first | assumption | omega | decide) (by first | assumption | omega | decide) (by first | assumption | omega | decide) (by first | assumption | omega | decide) (by first | assumption | omega | decide) (by first | assumption | omega | decide) (by first | assumption | omega | decide) (by first | assumption | omega | decide)) (cwV 1 hts gX9_run_X9_trap rfl rfl rfl (by decide +kernel) ⟨Nat.le_of_ble_eq_true rfl, Nat.le_of_ble_eq_true rfl⟩) ⟨fun a U g mk q => by obtain ⟨q0, q1, qP, qK, qD⟩ := q; exact ⟨q0, q1, qP, va_K.moved (u := U) (U := U.calling g mk a) (Vm.Alike.refl U.vm) qK, qD⟩, va_recv hKc hPc (ci := 8) (q0 := 0) rfl rfl, fun U hU hW => ⟨rfl, by rw [hU], by rw [hU]; exact hPc, va_K.moved hW.alike hKc, hDc.weaken (fun _ _ _ _ => trivial)⟩⟩ rfl rfl hl.1 rfl (lv_room (Nat.le_of_ble_eq_true rfl)) dX9_run_82 ⟨Nat.le_of_ble_eq_true rfl, Nat.le_of_ble_eq_true rfl⟩) hS (fun q _ h => hFc q h) hFc (fun u24 t H1 locs ht hvm hw hB hz1 hk1 hS => ?_)
                              obtain ⟨hP1, hK1, hD1⟩ := hB
                              rw [ht] at hP1
                              have hK1 := va_K.moved hvm.symm hK1
                              try dsimp only at hw
                              obtain ⟨hP, hD⟩ := va_join (wr := [(az, .inl (tz, 3, .inl rdy)), (ae, .inl (te, 3, .inl (fun _ => 0))), (ao, .inl (to, 3, .inl u15.1)), (an, .inl (tn, 3, .inl u15.2)), (au, .inl (tu, 3, .inl (fun _ => 0)))]) (w1 := [(h0, .inr (8, [.int 0, .ref am, .ref ad, .ref ab, .int 0, .int 224, .ref ar, .int 0, .int 0, .int 0, .int 0, .int 0, .int 0, .ref az, .ref ae, .ref ao, .ref an, .ref au, .int 0, .int 0, .int 0, .ref ap, .ref aw, .int 0, .int 0, .int 0, .int 0, .int 0])), (am, .inl (tm, 512, .inl u24.1)), (ar, .inl (tr, 8, .inl u24.2))]) hP hD [6, 0, 7] [1, 2, 3, 4, 5] rfl rfl (by decide) (by decide) hk1 hFc hP1 hD1
                              have hK := (hK.sub (tys' := [(tz, .boolean), (te, .boolean), (to, .boolean), (tn, .boolean), (tu, .int)]) [1, 2, 3, 4, 5] rfl).app hK1
                              generalize H1 = H at hP hS ⊢
                              have hP : va_P (dC, dI) vwCl [(az, .inl (tz, 3, .inl rdy)), (ae, .inl (te, 3, .inl (fun _ => 0))), (ao, .inl (to, 3, .inl u15.1)), (an, .inl (tn, 3, .inl u15.2)), (au, .inl (tu, 3, .inl (fun _ => 0))), (h0, .inr (8, [.int 0, .ref am, .ref ad, .ref ab, .int 0, .int 224, .ref ar, .int 0, .int 0, .int 0, .int 0, .int 0, .int 0, .ref az, .ref ae, .ref ao, .ref an, .ref au, .int 0, .int 0, .int 0, .ref ap, .ref aw, .int 0, .int 0, .int 0, .int 0, .int 0])), (am, .inl (tm, 512, .inl u24.1)), (ar, .inl (tr, 8, .inl u24.2))] H := hP
                              have hD : va_D A [(az, .inl (tz, 3, .inl rdy)), (ae, .inl (te, 3, .inl (fun _ => 0))), (ao, .inl (to, 3, .inl u15.1)), (an, .inl (tn, 3, .inl u15.2)), (au, .inl (tu, 3, .inl (fun _ => 0))), (h0, .inr (8, [.int 0, .ref am, .ref ad, .ref ab, .int 0, .int 224, .ref ar, .int 0, .int 0, .int 0, .int 0, .int 0, .int 0, .ref az, .ref ae, .ref ao, .ref an, .ref au, .int 0, .int 0, .int 0, .ref ap, .ref aw, .int 0, .int 0, .int 0, .int 0, .int 0])), (am, .inl (tm, 512, .inl u24.1)), (ar, .inl (tr, 8, .inl u24.2))] := hD
                              have hK : va_K (dC, dI) vwCl [(tz, .boolean), (te, .boolean), (to, .boolean), (tn, .boolean), (tu, .int), (tm, .int), (tr, .int)] s := hK
                              refine W.widen (k := 0) (n := 0) (Nat.le_of_ble_eq_true rfl) (Nat.le_of_ble_eq_true rfl) ?_
                              obtain ⟨_, _, _, _, _⟩ := hw
                              refine lv_aload_n hx hb dX9_run_85 rfl (lv_at hl 1 rfl) ?_
                              refine va_get (D := (dC, dI)) (ci := 8) (v := .int 0) (C := RX9) (T := TX9) (N := 28) hx hb hts (by decide +kernel) hown hK hP 5 rfl rfl 9 (by decide) (hts (.fieldLink RX9 22 "UnibusMachineModel" "state" "I") (by decide +kernel)) (fun _ h9 => h9) rfl dX9_run_86 ?_
                              refine lv_iconst (v := 2) hx hb dX9_run_89 (by decide) ?_
                              refine lv_icmp_ge (tgt := 97) hx hb dX9_run_90 (by decide) (fun c25 => ?_) (fun c25 => ?_)
                              · exact absurd c25 (by decide)
                              · skip
                                refine lv_aload_n hx hb dX9_run_93 rfl (lv_at hl 1 rfl) ?_
                                have hPc := hP.sub (ws' := [(h0, .inr (8, [.int 0, .ref am, .ref ad, .ref ab, .int 0, .int 224, .ref ar, .int 0, .int 0, .int 0, .int 0, .int 0, .int 0, .ref az, .ref ae, .ref ao, .ref an, .ref au, .int 0, .int 0, .int 0, .ref ap, .ref aw, .int 0, .int 0, .int 0, .int 0, .int 0])), (az, .inl (tz, 3, .inl rdy)), (ae, .inl (te, 3, .inl (fun _ => 0))), (ao, .inl (to, 3, .inl u15.1)), (an, .inl (tn, 3, .inl u15.2)), (au, .inl (tu, 3, .inl (fun _ => 0)))]) [5, 0, 1, 2, 3, 4] rfl
                                have hDc := hD.sub (ws' := [(h0, .inr (8, [.int 0, .ref am, .ref ad, .ref ab, .int 0, .int 224, .ref ar, .int 0, .int 0, .int 0, .int 0, .int 0, .int 0, .ref az, .ref ae, .ref ao, .ref an, .ref au, .int 0, .int 0, .int 0, .ref ap, .ref aw, .int 0, .int 0, .int 0, .int 0, .int 0])), (az, .inl (tz, 3, .inl rdy)), (ae, .inl (te, 3, .inl (fun _ => 0))), (ao, .inl (to, 3, .inl u15.1)), (an, .inl (tn, 3, .inl u15.2)), (au, .inl (tu, 3, .inl (fun _ => 0)))]) [5, 0, 1, 2, 3, 4] (by decide) rfl
                                have hKc := hK.sub (tys' := [(tz, .boolean), (te, .boolean), (to, .boolean), (tn, .boolean), (tu, .int)]) [0, 1, 2, 3, 4] rfl
                                have hFc := va_free (wc := [(h0, .inr (8, [.int 0, .ref am, .ref ad, .ref ab, .int 0, .int 224, .ref ar, .int 0, .int 0, .int 0, .int 0, .int 0, .int 0, .ref az, .ref ae, .ref ao, .ref an, .ref au, .int 0, .int 0, .int 0, .ref ap, .ref aw, .int 0, .int 0, .int 0, .int 0, .int 0])), (az, .inl (tz, 3, .inl rdy)), (ae, .inl (te, 3, .inl (fun _ => 0))), (ao, .inl (to, 3, .inl u15.1)), (an, .inl (tn, 3, .inl u15.2)), (au, .inl (tu, 3, .inl (fun _ => 0)))]) hD hS hA [5, 0, 1, 2, 3, 4] rfl
                                refine va_callv (va_runV (As := []) (rest := []) ⟨hx, hb, hml, hown, hts⟩ (c_m_goOn l dC dI h0 am ad ab ar az ae ao an au ap aw tz te to tn tu u15.1 u15.2 H.size) (cwV 0 hts gX9_run_X9_goOn rfl rfl rfl (by decide +kernel) ⟨Nat.le_of_ble_eq_true rfl, Nat.le_of_ble_eq_true rfl⟩) ⟨fun a U g mk q => by obtain ⟨q0, q1, qP, qK, qD⟩ := q; exact ⟨q0, q1, qP, va_K.moved (u := U) (U := U.calling g mk a) (Vm.Alike.refl U.vm) qK, qD⟩, va_recv hKc hPc (ci := 8) (q0 := 0) rfl rfl, fun U hU hW => ⟨rfl, by rw [hU], by rw [hU]; exact hPc, va_K.moved hW.alike hKc, hDc.weaken (fun _ _ _ _ => trivial)⟩⟩ rfl rfl hl.1 rfl (lv_room (Nat.le_of_ble_eq_true rfl)) dX9_run_94 ⟨Nat.le_of_ble_eq_true rfl, Nat.le_of_ble_eq_true rfl⟩) hS (fun q _ h => hFc q h) hFc (fun u27 t H1 locs ht hvm hw hB hz1 hk1 hS => ?_)
                                obtain ⟨hP1, hK1, hD1⟩ := hB
                                rw [ht] at hP1
                                have hK1 := va_K.moved hvm.symm hK1
                                try dsimp only at hw
                                obtain ⟨hP, hD⟩ := va_join (wr := [(am, .inl (tm, 512, .inl u24.1)), (ar, .inl (tr, 8, .inl u24.2))]) (w1 := [(h0, .inr (8, [.int 0, .ref am, .ref ad, .ref ab, .int 0, .int 224, .ref ar, .int 0, .int 0, .int 0, .int 0, .int 0, .int 0, .ref az, .ref ae, .ref ao, .ref an, .ref au, .int 0, .int 0, .int 0, .ref ap, .ref aw, .int 0, .int 0, .int 0, .int 0, .int 0])), (az, .inl (tz, 3, .inl rdy)), (ae, .inl (te, 3, .inl (fun _ => 0))), (ao, .inl (to, 3, .inl u27.1)), (an, .inl (tn, 3, .inl u27.2)), (au, .inl (tu, 3, .inl (fun _ => 0)))]) hP hD [5, 0, 1, 2, 3, 4] [6, 7] rfl rfl (by decide) (by decide) hk1 hFc hP1 hD1
                                have hK := (hK.sub (tys' := [(tm, .int), (tr, .int)]) [5, 6] rfl).app hK1
                                generalize H1 = H at hP hS ⊢
                                have hP : va_P (dC, dI) vwCl [(am, .inl (tm, 512, .inl u24.1)), (ar, .inl (tr, 8, .inl u24.2)), (h0, .inr (8, [.int 0, .ref am, .ref ad, .ref ab, .int 0, .int 224, .ref ar, .int 0, .int 0, .int 0, .int 0, .int 0, .int 0, .ref az, .ref ae, .ref ao, .ref an, .ref au, .int 0, .int 0, .int 0, .ref ap, .ref aw, .int 0, .int 0, .int 0, .int 0, .int 0])), (az, .inl (tz, 3, .inl rdy)), (ae, .inl (te, 3, .inl (fun _ => 0))), (ao, .inl (to, 3, .inl u27.1)), (an, .inl (tn, 3, .inl u27.2)), (au, .inl (tu, 3, .inl (fun _ => 0)))] H := hP
                                have hD : va_D A [(am, .inl (tm, 512, .inl u24.1)), (ar, .inl (tr, 8, .inl u24.2)), (h0, .inr (8, [.int 0, .ref am, .ref ad, .ref ab, .int 0, .int 224, .ref ar, .int 0, .int 0, .int 0, .int 0, .int 0, .int 0, .ref az, .ref ae, .ref ao, .ref an, .ref au, .int 0, .int 0, .int 0, .ref ap, .ref aw, .int 0, .int 0, .int 0, .int 0, .int 0])), (az, .inl (tz, 3, .inl rdy)), (ae, .inl (te, 3, .inl (fun _ => 0))), (ao, .inl (to, 3, .inl u27.1)), (an, .inl (tn, 3, .inl u27.2)), (au, .inl (tu, 3, .inl (fun _ => 0)))] := hD
                                have hK : va_K (dC, dI) vwCl [(tm, .int), (tr, .int), (tz, .boolean), (te, .boolean), (to, .boolean), (tn, .boolean), (tu, .int)] s := hK
                                refine W.widen (k := 0) (n := 0) (Nat.le_of_ble_eq_true rfl) (Nat.le_of_ble_eq_true rfl) ?_
                                refine lv_iinc (v := 2) (lv' := [(2, .int 2), (0, .ref h0), (1, .int 4)]) hx hb dX9_run_97 hl (k := 0) rfl (by decide) (by decide) rfl (fun ls hl => ?_)
                                refine lv_goto (tgt := 34) hx hb dX9_run_100 (by decide) ?_
                                refine lv_iload_n hx hb dX9_run_34 rfl (lv_at hl 0 rfl) ?_
                                refine lv_iload_n hx hb dX9_run_35 rfl (lv_at hl 2 rfl) ?_
                                refine lv_icmp_ge (tgt := 103) hx hb dX9_run_36 (by decide) (fun c28 => ?_) (fun c28 => ?_)
                                · exact absurd c28 (by decide)
                                · skip
                                  refine lv_aload_n hx hb dX9_run_39 rfl (lv_at hl 1 rfl) ?_
                                  refine va_get (D := (dC, dI)) (ci := 8) (v := .int 0) (C := RX9) (T := TX9) (N := 28) hx hb hts (by decide +kernel) hown hK hP 2 rfl rfl 9 (by decide) (hts (.fieldLink RX9 22 "UnibusMachineModel" "state" "I") (by decide +kernel)) (fun _ h9 => h9) rfl dX9_run_40 ?_
                                  refine lv_iconst (v := 2) hx hb dX9_run_43 (by decide) ?_
                                  refine lv_icmp_ge (tgt := 103) hx hb dX9_run_44 (by decide) (fun c29 => ?_) (fun c29 => ?_)
                                  · exact absurd c29 (by decide)
                                  · skip
                                    refine lv_aload_n hx hb dX9_run_47 rfl (lv_at hl 1 rfl) ?_
                                    refine va_get (D := (dC, dI)) (ci := 8) (v := .int 0) (C := RX9) (T := TX9) (N := 28) hx hb hts (by decide +kernel) hown hK hP 2 rfl rfl 0 (by decide) (hts (.fieldLink RX9 48 "UnibusMachineModel" "thrown" "I") (by decide +kernel)) (fun _ h9 => h9) rfl dX9_run_48 ?_
                                    refine lv_if_ne (tgt := 103) hx hb dX9_run_51 (by decide) (fun c30 => ?_) (fun c30 => ?_)
                                    · exact absurd c30 (by decide)
                                    · skip
                                      refine lv_aload_n hx hb dX9_run_54 rfl (lv_at hl 1 rfl) ?_
                                      refine va_get (D := (dC, dI)) (ci := 8) (v := .int 0) (C := RX9) (T := TX9) (N := 28) hx hb hts (by decide +kernel) hown hK hP 2 rfl rfl 9 (by decide) (hts (.fieldLink RX9 22 "UnibusMachineModel" "state" "I") (by decide +kernel)) (fun _ h9 => h9) rfl dX9_run_55 ?_
                                      refine lv_if_ne (tgt := 85) hx hb dX9_run_58 (by decide) (fun c31 => ?_) (fun c31 => ?_)
                                      · exact absurd c31 (by decide)
                                      · skip
                                        refine lv_aload_n hx hb dX9_run_61 rfl (lv_at hl 1 rfl) ?_
                                        refine lv_iconst (v := 0) hx hb dX9_run_62 (by decide) ?_
                                        refine va_put (D := (dC, dI)) (ci := 8) (v := .int 0) (ty := .int) (C := RX9) (T := TX9) (N := 28) hx hb hts (by decide +kernel) tyX9 tyX9_ok nmX9 hown hK hP hD hS 2 rfl rfl 10 (by decide) (hts (.fieldLink RX9 87 "UnibusMachineModel" "wrong" "I") (by decide +kernel)) (fun _ h9 => h9) rfl (by decide +kernel) rfl rfl (Nat.le_of_ble_eq_true rfl) dX9_run_63 (fun H locs hP hD hS => ?_)
                                        have hP : va_P (dC, dI) vwCl [(am, .inl (tm, 512, .inl u24.1)), (ar, .inl (tr, 8, .inl u24.2)), (h0, .inr (8, [.int 0, .ref am, .ref ad, .ref ab, .int 0, .int 224, .ref ar, .int 0, .int 0, .int 0, .int 0, .int 0, .int 0, .ref az, .ref ae, .ref ao, .ref an, .ref au, .int 0, .int 0, .int 0, .ref ap, .ref aw, .int 0, .int 0, .int 0, .int 0, .int 0])), (az, .inl (tz, 3, .inl rdy)), (ae, .inl (te, 3, .inl (fun _ => 0))), (ao, .inl (to, 3, .inl u27.1)), (an, .inl (tn, 3, .inl u27.2)), (au, .inl (tu, 3, .inl (fun _ => 0)))] H := hP
                                        have hD : va_D A [(am, .inl (tm, 512, .inl u24.1)), (ar, .inl (tr, 8, .inl u24.2)), (h0, .inr (8, [.int 0, .ref am, .ref ad, .ref ab, .int 0, .int 224, .ref ar, .int 0, .int 0, .int 0, .int 0, .int 0, .int 0, .ref az, .ref ae, .ref ao, .ref an, .ref au, .int 0, .int 0, .int 0, .ref ap, .ref aw, .int 0, .int 0, .int 0, .int 0, .int 0])), (az, .inl (tz, 3, .inl rdy)), (ae, .inl (te, 3, .inl (fun _ => 0))), (ao, .inl (to, 3, .inl u27.1)), (an, .inl (tn, 3, .inl u27.2)), (au, .inl (tu, 3, .inl (fun _ => 0)))] := hD
                                        refine lv_aload_n hx hb dX9_run_66 rfl (lv_at hl 1 rfl) ?_
                                        have hPc := hP.sub (ws' := [(h0, .inr (8, [.int 0, .ref am, .ref ad, .ref ab, .int 0, .int 224, .ref ar, .int 0, .int 0, .int 0, .int 0, .int 0, .int 0, .ref az, .ref ae, .ref ao, .ref an, .ref au, .int 0, .int 0, .int 0, .ref ap, .ref aw, .int 0, .int 0, .int 0, .int 0, .int 0])), (ar, .inl (tr, 8, .inl u24.2))]) [2, 1] rfl
                                        have hDc := hD.sub (ws' := [(h0, .inr (8, [.int 0, .ref am, .ref ad, .ref ab, .int 0, .int 224, .ref ar, .int 0, .int 0, .int 0, .int 0, .int 0, .int 0, .ref az, .ref ae, .ref ao, .ref an, .ref au, .int 0, .int 0, .int 0, .ref ap, .ref aw, .int 0, .int 0, .int 0, .int 0, .int 0])), (ar, .inl (tr, 8, .inl u24.2))]) [2, 1] (by decide) rfl
                                        have hKc := hK.sub (tys' := [(tr, .int)]) [1] rfl
                                        have hFc := va_free (wc := [(h0, .inr (8, [.int 0, .ref am, .ref ad, .ref ab, .int 0, .int 224, .ref ar, .int 0, .int 0, .int 0, .int 0, .int 0, .int 0, .ref az, .ref ae, .ref ao, .ref an, .ref au, .int 0, .int 0, .int 0, .ref ap, .ref aw, .int 0, .int 0, .int 0, .int 0, .int 0])), (ar, .inl (tr, 8, .inl u24.2))]) hD hS hA [2, 1] rfl
                                        refine va_callv (va_runV (As := []) (rest := []) ⟨hx, hb, hml, hown, hts⟩ (c_m_step l dC dI h0 am ad ab ar az ae ao an au ap aw tr u24.2 H.size (by first | assumption | omega | decide)) (cwV 0 hts gX9_run_X9_step rfl rfl rfl (by decide +kernel) ⟨Nat.le_of_ble_eq_true rfl, Nat.le_of_ble_eq_true rfl⟩) ⟨fun a U g mk q => by obtain ⟨q0, q1, qP, qK, qD⟩ := q; exact ⟨q0, q1, qP, va_K.moved (u := U) (U := U.calling g mk a) (Vm.Alike.refl U.vm) qK, qD⟩, va_recv hKc hPc (ci := 8) (q0 := 0) rfl rfl, fun U hU hW => ⟨rfl, by rw [hU], by rw [hU]; exact hPc, va_K.moved hW.alike hKc, hDc.weaken (fun _ _ _ _ => trivial)⟩⟩ rfl rfl hl.1 rfl (lv_room (Nat.le_of_ble_eq_true rfl)) dX9_run_67 ⟨Nat.le_of_ble_eq_true rfl, Nat.le_of_ble_eq_true rfl⟩) hS (fun q _ h => hFc q h) hFc (fun u33 t H1 locs ht hvm hw hB hz1 hk1 hS => ?_)
                                        obtain ⟨hP1, hK1, hD1⟩ := hB
                                        rw [ht] at hP1
                                        have hK1 := va_K.moved hvm.symm hK1
                                        try dsimp only at hw
                                        obtain ⟨hP, hD⟩ := va_join (wr := [(am, .inl (tm, 512, .inl u24.1)), (az, .inl (tz, 3, .inl rdy)), (ae, .inl (te, 3, .inl (fun _ => 0))), (ao, .inl (to, 3, .inl u27.1)), (an, .inl (tn, 3, .inl u27.2)), (au, .inl (tu, 3, .inl (fun _ => 0)))]) (w1 := [(h0, .inr (8, [.int 0, .ref am, .ref ad, .ref ab, .int 0, .int 224, .ref ar, .int 0, .int 0, .int 0, .int 4, .int 0, .int 0, .ref az, .ref ae, .ref ao, .ref an, .ref au, .int 0, .int 0, .int 0, .ref ap, .ref aw, .int 0, .int 0, .int 0, .int 0, .int 0])), (ar, .inl (tr, 8, .inl u24.2))]) hP hD [2, 1] [0, 3, 4, 5, 6, 7] rfl rfl (by decide) (by decide) hk1 hFc hP1 hD1
                                        have hK := (hK.sub (tys' := [(tm, .int), (tz, .boolean), (te, .boolean), (to, .boolean), (tn, .boolean), (tu, .int)]) [0, 2, 3, 4, 5, 6] rfl).app hK1
                                        generalize H1 = H at hP hS ⊢
                                        have hP : va_P (dC, dI) vwCl [(am, .inl (tm, 512, .inl u24.1)), (az, .inl (tz, 3, .inl rdy)), (ae, .inl (te, 3, .inl (fun _ => 0))), (ao, .inl (to, 3, .inl u27.1)), (an, .inl (tn, 3, .inl u27.2)), (au, .inl (tu, 3, .inl (fun _ => 0))), (h0, .inr (8, [.int 0, .ref am, .ref ad, .ref ab, .int 0, .int 224, .ref ar, .int 0, .int 0, .int 0, .int 4, .int 0, .int 0, .ref az, .ref ae, .ref ao, .ref an, .ref au, .int 0, .int 0, .int 0, .ref ap, .ref aw, .int 0, .int 0, .int 0, .int 0, .int 0])), (ar, .inl (tr, 8, .inl u24.2))] H := hP
                                        have hD : va_D A [(am, .inl (tm, 512, .inl u24.1)), (az, .inl (tz, 3, .inl rdy)), (ae, .inl (te, 3, .inl (fun _ => 0))), (ao, .inl (to, 3, .inl u27.1)), (an, .inl (tn, 3, .inl u27.2)), (au, .inl (tu, 3, .inl (fun _ => 0))), (h0, .inr (8, [.int 0, .ref am, .ref ad, .ref ab, .int 0, .int 224, .ref ar, .int 0, .int 0, .int 0, .int 4, .int 0, .int 0, .ref az, .ref ae, .ref ao, .ref an, .ref au, .int 0, .int 0, .int 0, .ref ap, .ref aw, .int 0, .int 0, .int 0, .int 0, .int 0])), (ar, .inl (tr, 8, .inl u24.2))] := hD
                                        have hK : va_K (dC, dI) vwCl [(tm, .int), (tz, .boolean), (te, .boolean), (to, .boolean), (tn, .boolean), (tu, .int), (tr, .int)] s := hK
                                        refine W.widen (k := 0) (n := 0) (Nat.le_of_ble_eq_true rfl) (Nat.le_of_ble_eq_true rfl) ?_
                                        refine lv_aload_n hx hb dX9_run_70 rfl (lv_at hl 1 rfl) ?_
                                        refine va_get (D := (dC, dI)) (ci := 8) (v := .int 4) (C := RX9) (T := TX9) (N := 28) hx hb hts (by decide +kernel) hown hK hP 6 rfl rfl 10 (by decide) (hts (.fieldLink RX9 87 "UnibusMachineModel" "wrong" "I") (by decide +kernel)) (fun _ h9 => h9) rfl dX9_run_71 ?_
                                        refine lv_if_le (tgt := 85) hx hb dX9_run_74 (by decide) (fun c34 => ?_) (fun c34 => ?_)
                                        · exact absurd c34 (by decide)
                                        · skip
                                          refine lv_aload_n hx hb dX9_run_77 rfl (lv_at hl 1 rfl) ?_
                                          refine lv_aload_n hx hb dX9_run_78 rfl (lv_at hl 1 rfl) ?_
                                          refine va_get (D := (dC, dI)) (ci := 8) (v := .int 4) (C := RX9) (T := TX9) (N := 28) hx hb hts (by decide +kernel) hown hK hP 6 rfl rfl 10 (by decide) (hts (.fieldLink RX9 87 "UnibusMachineModel" "wrong" "I") (by decide +kernel)) (fun _ h9 => h9) rfl dX9_run_79 ?_
                                          have hPc := hP.sub (ws' := [(h0, .inr (8, [.int 0, .ref am, .ref ad, .ref ab, .int 0, .int 224, .ref ar, .int 0, .int 0, .int 0, .int 4, .int 0, .int 0, .ref az, .ref ae, .ref ao, .ref an, .ref au, .int 0, .int 0, .int 0, .ref ap, .ref aw, .int 0, .int 0, .int 0, .int 0, .int 0])), (am, .inl (tm, 512, .inl u24.1)), (ar, .inl (tr, 8, .inl u24.2))]) [6, 0, 7] rfl
                                          have hDc := hD.sub (ws' := [(h0, .inr (8, [.int 0, .ref am, .ref ad, .ref ab, .int 0, .int 224, .ref ar, .int 0, .int 0, .int 0, .int 4, .int 0, .int 0, .ref az, .ref ae, .ref ao, .ref an, .ref au, .int 0, .int 0, .int 0, .ref ap, .ref aw, .int 0, .int 0, .int 0, .int 0, .int 0])), (am, .inl (tm, 512, .inl u24.1)), (ar, .inl (tr, 8, .inl u24.2))]) [6, 0, 7] (by decide) rfl
                                          have hKc := hK.sub (tys' := [(tm, .int), (tr, .int)]) [0, 6] rfl
                                          have hFc := va_free (wc := [(h0, .inr (8, [.int 0, .ref am, .ref ad, .ref ab, .int 0, .int 224, .ref ar, .int 0, .int 0, .int 0, .int 4, .int 0, .int 0, .ref az, .ref ae, .ref ao, .ref an, .ref au, .int 0, .int 0, .int 0, .ref ap, .ref aw, .int 0, .int 0, .int 0, .int 0, .int 0])), (am, .inl (tm, 512, .inl u24.1)), (ar, .inl (tr, 8, .inl u24.2))]) hD hS hA [6, 0, 7] rfl
                                          refine va_callv (va_runV (As := [.int 4]) (rest := []) ⟨hx, hb, hml, hown, hts⟩ (c_m_trap l dC dI h0 am ad ab ar az ae ao an au ap aw tm tr u24.1 u24.2 ((z - 4) - 4) H.size (by first | assumption | omega | decide) (by first | assumption | omega | decide) (by first | assumption | omega | decide) (by first | assumption | omega | decide) (by first | assumption | omega | decide) (by first | assumption | omega | decide) (by first | assumption | omega | decide) (by first | assumption | omega | decide)) (cwV 1 hts gX9_run_X9_trap rfl rfl rfl (by decide +kernel) ⟨Nat.le_of_ble_eq_true rfl, Nat.le_of_ble_eq_true rfl⟩) ⟨fun a U g mk q => by obtain ⟨q0, q1, qP, qK, qD⟩ := q; exact ⟨q0, q1, qP, va_K.moved (u := U) (U := U.calling g mk a) (Vm.Alike.refl U.vm) qK, qD⟩, va_recv hKc hPc (ci := 8) (q0 := 0) rfl rfl, fun U hU hW => ⟨rfl, by rw [hU], by rw [hU]; exact hPc, va_K.moved hW.alike hKc, hDc.weaken (fun _ _ _ _ => trivial)⟩⟩ rfl rfl hl.1 rfl (lv_room (Nat.le_of_ble_eq_true rfl)) dX9_run_82 ⟨Nat.le_of_ble_eq_true rfl, Nat.le_of_ble_eq_true rfl⟩) hS (fun q _ h => hFc q h) hFc (fun u36 t H1 locs ht hvm hw hB hz1 hk1 hS => ?_)
                                          obtain ⟨hP1, hK1, hD1⟩ := hB
                                          rw [ht] at hP1
                                          have hK1 := va_K.moved hvm.symm hK1
                                          try dsimp only at hw
                                          obtain ⟨hP, hD⟩ := va_join (wr := [(az, .inl (tz, 3, .inl rdy)), (ae, .inl (te, 3, .inl (fun _ => 0))), (ao, .inl (to, 3, .inl u27.1)), (an, .inl (tn, 3, .inl u27.2)), (au, .inl (tu, 3, .inl (fun _ => 0)))]) (w1 := [(h0, .inr (8, [.int 0, .ref am, .ref ad, .ref ab, .int 0, .int 224, .ref ar, .int 0, .int 0, .int 0, .int 0, .int 0, .int 0, .ref az, .ref ae, .ref ao, .ref an, .ref au, .int 0, .int 0, .int 0, .ref ap, .ref aw, .int 0, .int 0, .int 0, .int 0, .int 0])), (am, .inl (tm, 512, .inl u36.1)), (ar, .inl (tr, 8, .inl u36.2))]) hP hD [6, 0, 7] [1, 2, 3, 4, 5] rfl rfl (by decide) (by decide) hk1 hFc hP1 hD1
                                          have hK := (hK.sub (tys' := [(tz, .boolean), (te, .boolean), (to, .boolean), (tn, .boolean), (tu, .int)]) [1, 2, 3, 4, 5] rfl).app hK1
                                          generalize H1 = H at hP hS ⊢
                                          have hP : va_P (dC, dI) vwCl [(az, .inl (tz, 3, .inl rdy)), (ae, .inl (te, 3, .inl (fun _ => 0))), (ao, .inl (to, 3, .inl u27.1)), (an, .inl (tn, 3, .inl u27.2)), (au, .inl (tu, 3, .inl (fun _ => 0))), (h0, .inr (8, [.int 0, .ref am, .ref ad, .ref ab, .int 0, .int 224, .ref ar, .int 0, .int 0, .int 0, .int 0, .int 0, .int 0, .ref az, .ref ae, .ref ao, .ref an, .ref au, .int 0, .int 0, .int 0, .ref ap, .ref aw, .int 0, .int 0, .int 0, .int 0, .int 0])), (am, .inl (tm, 512, .inl u36.1)), (ar, .inl (tr, 8, .inl u36.2))] H := hP
                                          have hD : va_D A [(az, .inl (tz, 3, .inl rdy)), (ae, .inl (te, 3, .inl (fun _ => 0))), (ao, .inl (to, 3, .inl u27.1)), (an, .inl (tn, 3, .inl u27.2)), (au, .inl (tu, 3, .inl (fun _ => 0))), (h0, .inr (8, [.int 0, .ref am, .ref ad, .ref ab, .int 0, .int 224, .ref ar, .int 0, .int 0, .int 0, .int 0, .int 0, .int 0, .ref az, .ref ae, .ref ao, .ref an, .ref au, .int 0, .int 0, .int 0, .ref ap, .ref aw, .int 0, .int 0, .int 0, .int 0, .int 0])), (am, .inl (tm, 512, .inl u36.1)), (ar, .inl (tr, 8, .inl u36.2))] := hD
                                          have hK : va_K (dC, dI) vwCl [(tz, .boolean), (te, .boolean), (to, .boolean), (tn, .boolean), (tu, .int), (tm, .int), (tr, .int)] s := hK
                                          refine W.widen (k := 0) (n := 0) (Nat.le_of_ble_eq_true rfl) (Nat.le_of_ble_eq_true rfl) ?_
                                          obtain ⟨_, _, _, _, _⟩ := hw
                                          refine lv_aload_n hx hb dX9_run_85 rfl (lv_at hl 1 rfl) ?_
                                          refine va_get (D := (dC, dI)) (ci := 8) (v := .int 0) (C := RX9) (T := TX9) (N := 28) hx hb hts (by decide +kernel) hown hK hP 5 rfl rfl 9 (by decide) (hts (.fieldLink RX9 22 "UnibusMachineModel" "state" "I") (by decide +kernel)) (fun _ h9 => h9) rfl dX9_run_86 ?_
                                          refine lv_iconst (v := 2) hx hb dX9_run_89 (by decide) ?_
                                          refine lv_icmp_ge (tgt := 97) hx hb dX9_run_90 (by decide) (fun c37 => ?_) (fun c37 => ?_)
                                          · exact absurd c37 (by decide)
                                          · skip
                                            refine lv_aload_n hx hb dX9_run_93 rfl (lv_at hl 1 rfl) ?_
                                            have hPc := hP.sub (ws' := [(h0, .inr (8, [.int 0, .ref am, .ref ad, .ref ab, .int 0, .int 224, .ref ar, .int 0, .int 0, .int 0, .int 0, .int 0, .int 0, .ref az, .ref ae, .ref ao, .ref an, .ref au, .int 0, .int 0, .int 0, .ref ap, .ref aw, .int 0, .int 0, .int 0, .int 0, .int 0])), (az, .inl (tz, 3, .inl rdy)), (ae, .inl (te, 3, .inl (fun _ => 0))), (ao, .inl (to, 3, .inl u27.1)), (an, .inl (tn, 3, .inl u27.2)), (au, .inl (tu, 3, .inl (fun _ => 0)))]) [5, 0, 1, 2, 3, 4] rfl
                                            have hDc := hD.sub (ws' := [(h0, .inr (8, [.int 0, .ref am, .ref ad, .ref ab, .int 0, .int 224, .ref ar, .int 0, .int 0, .int 0, .int 0, .int 0, .int 0, .ref az, .ref ae, .ref ao, .ref an, .ref au, .int 0, .int 0, .int 0, .ref ap, .ref aw, .int 0, .int 0, .int 0, .int 0, .int 0])), (az, .inl (tz, 3, .inl rdy)), (ae, .inl (te, 3, .inl (fun _ => 0))), (ao, .inl (to, 3, .inl u27.1)), (an, .inl (tn, 3, .inl u27.2)), (au, .inl (tu, 3, .inl (fun _ => 0)))]) [5, 0, 1, 2, 3, 4] (by decide) rfl
                                            have hKc := hK.sub (tys' := [(tz, .boolean), (te, .boolean), (to, .boolean), (tn, .boolean), (tu, .int)]) [0, 1, 2, 3, 4] rfl
                                            have hFc := va_free (wc := [(h0, .inr (8, [.int 0, .ref am, .ref ad, .ref ab, .int 0, .int 224, .ref ar, .int 0, .int 0, .int 0, .int 0, .int 0, .int 0, .ref az, .ref ae, .ref ao, .ref an, .ref au, .int 0, .int 0, .int 0, .ref ap, .ref aw, .int 0, .int 0, .int 0, .int 0, .int 0])), (az, .inl (tz, 3, .inl rdy)), (ae, .inl (te, 3, .inl (fun _ => 0))), (ao, .inl (to, 3, .inl u27.1)), (an, .inl (tn, 3, .inl u27.2)), (au, .inl (tu, 3, .inl (fun _ => 0)))]) hD hS hA [5, 0, 1, 2, 3, 4] rfl
                                            refine va_callv (va_runV (As := []) (rest := []) ⟨hx, hb, hml, hown, hts⟩ (c_m_goOn l dC dI h0 am ad ab ar az ae ao an au ap aw tz te to tn tu u27.1 u27.2 H.size) (cwV 0 hts gX9_run_X9_goOn rfl rfl rfl (by decide +kernel) ⟨Nat.le_of_ble_eq_true rfl, Nat.le_of_ble_eq_true rfl⟩) ⟨fun a U g mk q => by obtain ⟨q0, q1, qP, qK, qD⟩ := q; exact ⟨q0, q1, qP, va_K.moved (u := U) (U := U.calling g mk a) (Vm.Alike.refl U.vm) qK, qD⟩, va_recv hKc hPc (ci := 8) (q0 := 0) rfl rfl, fun U hU hW => ⟨rfl, by rw [hU], by rw [hU]; exact hPc, va_K.moved hW.alike hKc, hDc.weaken (fun _ _ _ _ => trivial)⟩⟩ rfl rfl hl.1 rfl (lv_room (Nat.le_of_ble_eq_true rfl)) dX9_run_94 ⟨Nat.le_of_ble_eq_true rfl, Nat.le_of_ble_eq_true rfl⟩) hS (fun q _ h => hFc q h) hFc (fun u39 t H1 locs ht hvm hw hB hz1 hk1 hS => ?_)
                                            obtain ⟨hP1, hK1, hD1⟩ := hB
                                            rw [ht] at hP1
                                            have hK1 := va_K.moved hvm.symm hK1
                                            try dsimp only at hw
                                            obtain ⟨hP, hD⟩ := va_join (wr := [(am, .inl (tm, 512, .inl u36.1)), (ar, .inl (tr, 8, .inl u36.2))]) (w1 := [(h0, .inr (8, [.int 0, .ref am, .ref ad, .ref ab, .int 0, .int 224, .ref ar, .int 0, .int 0, .int 0, .int 0, .int 0, .int 0, .ref az, .ref ae, .ref ao, .ref an, .ref au, .int 0, .int 0, .int 0, .ref ap, .ref aw, .int 0, .int 0, .int 0, .int 0, .int 0])), (az, .inl (tz, 3, .inl rdy)), (ae, .inl (te, 3, .inl (fun _ => 0))), (ao, .inl (to, 3, .inl u39.1)), (an, .inl (tn, 3, .inl u39.2)), (au, .inl (tu, 3, .inl (fun _ => 0)))]) hP hD [5, 0, 1, 2, 3, 4] [6, 7] rfl rfl (by decide) (by decide) hk1 hFc hP1 hD1
                                            have hK := (hK.sub (tys' := [(tm, .int), (tr, .int)]) [5, 6] rfl).app hK1
                                            generalize H1 = H at hP hS ⊢
                                            have hP : va_P (dC, dI) vwCl [(am, .inl (tm, 512, .inl u36.1)), (ar, .inl (tr, 8, .inl u36.2)), (h0, .inr (8, [.int 0, .ref am, .ref ad, .ref ab, .int 0, .int 224, .ref ar, .int 0, .int 0, .int 0, .int 0, .int 0, .int 0, .ref az, .ref ae, .ref ao, .ref an, .ref au, .int 0, .int 0, .int 0, .ref ap, .ref aw, .int 0, .int 0, .int 0, .int 0, .int 0])), (az, .inl (tz, 3, .inl rdy)), (ae, .inl (te, 3, .inl (fun _ => 0))), (ao, .inl (to, 3, .inl u39.1)), (an, .inl (tn, 3, .inl u39.2)), (au, .inl (tu, 3, .inl (fun _ => 0)))] H := hP
                                            have hD : va_D A [(am, .inl (tm, 512, .inl u36.1)), (ar, .inl (tr, 8, .inl u36.2)), (h0, .inr (8, [.int 0, .ref am, .ref ad, .ref ab, .int 0, .int 224, .ref ar, .int 0, .int 0, .int 0, .int 0, .int 0, .int 0, .ref az, .ref ae, .ref ao, .ref an, .ref au, .int 0, .int 0, .int 0, .ref ap, .ref aw, .int 0, .int 0, .int 0, .int 0, .int 0])), (az, .inl (tz, 3, .inl rdy)), (ae, .inl (te, 3, .inl (fun _ => 0))), (ao, .inl (to, 3, .inl u39.1)), (an, .inl (tn, 3, .inl u39.2)), (au, .inl (tu, 3, .inl (fun _ => 0)))] := hD
                                            have hK : va_K (dC, dI) vwCl [(tm, .int), (tr, .int), (tz, .boolean), (te, .boolean), (to, .boolean), (tn, .boolean), (tu, .int)] s := hK
                                            refine W.widen (k := 0) (n := 0) (Nat.le_of_ble_eq_true rfl) (Nat.le_of_ble_eq_true rfl) ?_
                                            refine lv_iinc (v := 3) (lv' := [(2, .int 3), (0, .ref h0), (1, .int 4)]) hx hb dX9_run_97 hl (k := 0) rfl (by decide) (by decide) rfl (fun ls hl => ?_)
                                            refine lv_goto (tgt := 34) hx hb dX9_run_100 (by decide) ?_
                                            refine lv_iload_n hx hb dX9_run_34 rfl (lv_at hl 0 rfl) ?_
                                            refine lv_iload_n hx hb dX9_run_35 rfl (lv_at hl 2 rfl) ?_
                                            refine lv_icmp_ge (tgt := 103) hx hb dX9_run_36 (by decide) (fun c40 => ?_) (fun c40 => ?_)
                                            · exact absurd c40 (by decide)
                                            · skip
                                              refine lv_aload_n hx hb dX9_run_39 rfl (lv_at hl 1 rfl) ?_
                                              refine va_get (D := (dC, dI)) (ci := 8) (v := .int 0) (C := RX9) (T := TX9) (N := 28) hx hb hts (by decide +kernel) hown hK hP 2 rfl rfl 9 (by decide) (hts (.fieldLink RX9 22 "UnibusMachineModel" "state" "I") (by decide +kernel)) (fun _ h9 => h9) rfl dX9_run_40 ?_
                                              refine lv_iconst (v := 2) hx hb dX9_run_43 (by decide) ?_
                                              refine lv_icmp_ge (tgt := 103) hx hb dX9_run_44 (by decide) (fun c41 => ?_) (fun c41 => ?_)
                                              · exact absurd c41 (by decide)
                                              · skip
                                                refine lv_aload_n hx hb dX9_run_47 rfl (lv_at hl 1 rfl) ?_
                                                refine va_get (D := (dC, dI)) (ci := 8) (v := .int 0) (C := RX9) (T := TX9) (N := 28) hx hb hts (by decide +kernel) hown hK hP 2 rfl rfl 0 (by decide) (hts (.fieldLink RX9 48 "UnibusMachineModel" "thrown" "I") (by decide +kernel)) (fun _ h9 => h9) rfl dX9_run_48 ?_
                                                refine lv_if_ne (tgt := 103) hx hb dX9_run_51 (by decide) (fun c42 => ?_) (fun c42 => ?_)
                                                · exact absurd c42 (by decide)
                                                · skip
                                                  refine lv_aload_n hx hb dX9_run_54 rfl (lv_at hl 1 rfl) ?_
                                                  refine va_get (D := (dC, dI)) (ci := 8) (v := .int 0) (C := RX9) (T := TX9) (N := 28) hx hb hts (by decide +kernel) hown hK hP 2 rfl rfl 9 (by decide) (hts (.fieldLink RX9 22 "UnibusMachineModel" "state" "I") (by decide +kernel)) (fun _ h9 => h9) rfl dX9_run_55 ?_
                                                  refine lv_if_ne (tgt := 85) hx hb dX9_run_58 (by decide) (fun c43 => ?_) (fun c43 => ?_)
                                                  · exact absurd c43 (by decide)
                                                  · skip
                                                    refine lv_aload_n hx hb dX9_run_61 rfl (lv_at hl 1 rfl) ?_
                                                    refine lv_iconst (v := 0) hx hb dX9_run_62 (by decide) ?_
                                                    refine va_put (D := (dC, dI)) (ci := 8) (v := .int 0) (ty := .int) (C := RX9) (T := TX9) (N := 28) hx hb hts (by decide +kernel) tyX9 tyX9_ok nmX9 hown hK hP hD hS 2 rfl rfl 10 (by decide) (hts (.fieldLink RX9 87 "UnibusMachineModel" "wrong" "I") (by decide +kernel)) (fun _ h9 => h9) rfl (by decide +kernel) rfl rfl (Nat.le_of_ble_eq_true rfl) dX9_run_63 (fun H locs hP hD hS => ?_)
                                                    have hP : va_P (dC, dI) vwCl [(am, .inl (tm, 512, .inl u36.1)), (ar, .inl (tr, 8, .inl u36.2)), (h0, .inr (8, [.int 0, .ref am, .ref ad, .ref ab, .int 0, .int 224, .ref ar, .int 0, .int 0, .int 0, .int 0, .int 0, .int 0, .ref az, .ref ae, .ref ao, .ref an, .ref au, .int 0, .int 0, .int 0, .ref ap, .ref aw, .int 0, .int 0, .int 0, .int 0, .int 0])), (az, .inl (tz, 3, .inl rdy)), (ae, .inl (te, 3, .inl (fun _ => 0))), (ao, .inl (to, 3, .inl u39.1)), (an, .inl (tn, 3, .inl u39.2)), (au, .inl (tu, 3, .inl (fun _ => 0)))] H := hP
                                                    have hD : va_D A [(am, .inl (tm, 512, .inl u36.1)), (ar, .inl (tr, 8, .inl u36.2)), (h0, .inr (8, [.int 0, .ref am, .ref ad, .ref ab, .int 0, .int 224, .ref ar, .int 0, .int 0, .int 0, .int 0, .int 0, .int 0, .ref az, .ref ae, .ref ao, .ref an, .ref au, .int 0, .int 0, .int 0, .ref ap, .ref aw, .int 0, .int 0, .int 0, .int 0, .int 0])), (az, .inl (tz, 3, .inl rdy)), (ae, .inl (te, 3, .inl (fun _ => 0))), (ao, .inl (to, 3, .inl u39.1)), (an, .inl (tn, 3, .inl u39.2)), (au, .inl (tu, 3, .inl (fun _ => 0)))] := hD
                                                    refine lv_aload_n hx hb dX9_run_66 rfl (lv_at hl 1 rfl) ?_
                                                    have hPc := hP.sub (ws' := [(h0, .inr (8, [.int 0, .ref am, .ref ad, .ref ab, .int 0, .int 224, .ref ar, .int 0, .int 0, .int 0, .int 0, .int 0, .int 0, .ref az, .ref ae, .ref ao, .ref an, .ref au, .int 0, .int 0, .int 0, .ref ap, .ref aw, .int 0, .int 0, .int 0, .int 0, .int 0])), (ar, .inl (tr, 8, .inl u36.2))]) [2, 1] rfl
                                                    have hDc := hD.sub (ws' := [(h0, .inr (8, [.int 0, .ref am, .ref ad, .ref ab, .int 0, .int 224, .ref ar, .int 0, .int 0, .int 0, .int 0, .int 0, .int 0, .ref az, .ref ae, .ref ao, .ref an, .ref au, .int 0, .int 0, .int 0, .ref ap, .ref aw, .int 0, .int 0, .int 0, .int 0, .int 0])), (ar, .inl (tr, 8, .inl u36.2))]) [2, 1] (by decide) rfl
                                                    have hKc := hK.sub (tys' := [(tr, .int)]) [1] rfl
                                                    have hFc := va_free (wc := [(h0, .inr (8, [.int 0, .ref am, .ref ad, .ref ab, .int 0, .int 224, .ref ar, .int 0, .int 0, .int 0, .int 0, .int 0, .int 0, .ref az, .ref ae, .ref ao, .ref an, .ref au, .int 0, .int 0, .int 0, .ref ap, .ref aw, .int 0, .int 0, .int 0, .int 0, .int 0])), (ar, .inl (tr, 8, .inl u36.2))]) hD hS hA [2, 1] rfl
                                                    refine va_callv (va_runV (As := []) (rest := []) ⟨hx, hb, hml, hown, hts⟩ (c_m_step l dC dI h0 am ad ab ar az ae ao an au ap aw tr u36.2 H.size (by first | assumption | omega | decide)) (cwV 0 hts gX9_run_X9_step rfl rfl rfl (by decide +kernel) ⟨Nat.le_of_ble_eq_true rfl, Nat.le_of_ble_eq_true rfl⟩) ⟨fun a U g mk q => by obtain ⟨q0, q1, qP, qK, qD⟩ := q; exact ⟨q0, q1, qP, va_K.moved (u := U) (U := U.calling g mk a) (Vm.Alike.refl U.vm) qK, qD⟩, va_recv hKc hPc (ci := 8) (q0 := 0) rfl rfl, fun U hU hW => ⟨rfl, by rw [hU], by rw [hU]; exact hPc, va_K.moved hW.alike hKc, hDc.weaken (fun _ _ _ _ => trivial)⟩⟩ rfl rfl hl.1 rfl (lv_room (Nat.le_of_ble_eq_true rfl)) dX9_run_67 ⟨Nat.le_of_ble_eq_true rfl, Nat.le_of_ble_eq_true rfl⟩) hS (fun q _ h => hFc q h) hFc (fun u45 t H1 locs ht hvm hw hB hz1 hk1 hS => ?_)
                                                    obtain ⟨hP1, hK1, hD1⟩ := hB
                                                    rw [ht] at hP1
                                                    have hK1 := va_K.moved hvm.symm hK1
                                                    try dsimp only at hw
                                                    obtain ⟨hP, hD⟩ := va_join (wr := [(am, .inl (tm, 512, .inl u36.1)), (az, .inl (tz, 3, .inl rdy)), (ae, .inl (te, 3, .inl (fun _ => 0))), (ao, .inl (to, 3, .inl u39.1)), (an, .inl (tn, 3, .inl u39.2)), (au, .inl (tu, 3, .inl (fun _ => 0)))]) (w1 := [(h0, .inr (8, [.int 0, .ref am, .ref ad, .ref ab, .int 0, .int 224, .ref ar, .int 0, .int 0, .int 0, .int 4, .int 0, .int 0, .ref az, .ref ae, .ref ao, .ref an, .ref au, .int 0, .int 0, .int 0, .ref ap, .ref aw, .int 0, .int 0, .int 0, .int 0, .int 0])), (ar, .inl (tr, 8, .inl u36.2))]) hP hD [2, 1] [0, 3, 4, 5, 6, 7] rfl rfl (by decide) (by decide) hk1 hFc hP1 hD1
                                                    have hK := (hK.sub (tys' := [(tm, .int), (tz, .boolean), (te, .boolean), (to, .boolean), (tn, .boolean), (tu, .int)]) [0, 2, 3, 4, 5, 6] rfl).app hK1
                                                    generalize H1 = H at hP hS ⊢
                                                    have hP : va_P (dC, dI) vwCl [(am, .inl (tm, 512, .inl u36.1)), (az, .inl (tz, 3, .inl rdy)), (ae, .inl (te, 3, .inl (fun _ => 0))), (ao, .inl (to, 3, .inl u39.1)), (an, .inl (tn, 3, .inl u39.2)), (au, .inl (tu, 3, .inl (fun _ => 0))), (h0, .inr (8, [.int 0, .ref am, .ref ad, .ref ab, .int 0, .int 224, .ref ar, .int 0, .int 0, .int 0, .int 4, .int 0, .int 0, .ref az, .ref ae, .ref ao, .ref an, .ref au, .int 0, .int 0, .int 0, .ref ap, .ref aw, .int 0, .int 0, .int 0, .int 0, .int 0])), (ar, .inl (tr, 8, .inl u36.2))] H := hP
                                                    have hD : va_D A [(am, .inl (tm, 512, .inl u36.1)), (az, .inl (tz, 3, .inl rdy)), (ae, .inl (te, 3, .inl (fun _ => 0))), (ao, .inl (to, 3, .inl u39.1)), (an, .inl (tn, 3, .inl u39.2)), (au, .inl (tu, 3, .inl (fun _ => 0))), (h0, .inr (8, [.int 0, .ref am, .ref ad, .ref ab, .int 0, .int 224, .ref ar, .int 0, .int 0, .int 0, .int 4, .int 0, .int 0, .ref az, .ref ae, .ref ao, .ref an, .ref au, .int 0, .int 0, .int 0, .ref ap, .ref aw, .int 0, .int 0, .int 0, .int 0, .int 0])), (ar, .inl (tr, 8, .inl u36.2))] := hD
                                                    have hK : va_K (dC, dI) vwCl [(tm, .int), (tz, .boolean), (te, .boolean), (to, .boolean), (tn, .boolean), (tu, .int), (tr, .int)] s := hK
                                                    refine W.widen (k := 0) (n := 0) (Nat.le_of_ble_eq_true rfl) (Nat.le_of_ble_eq_true rfl) ?_
                                                    refine lv_aload_n hx hb dX9_run_70 rfl (lv_at hl 1 rfl) ?_
                                                    refine va_get (D := (dC, dI)) (ci := 8) (v := .int 4) (C := RX9) (T := TX9) (N := 28) hx hb hts (by decide +kernel) hown hK hP 6 rfl rfl 10 (by decide) (hts (.fieldLink RX9 87 "UnibusMachineModel" "wrong" "I") (by decide +kernel)) (fun _ h9 => h9) rfl dX9_run_71 ?_
                                                    refine lv_if_le (tgt := 85) hx hb dX9_run_74 (by decide) (fun c46 => ?_) (fun c46 => ?_)
                                                    · exact absurd c46 (by decide)
                                                    · skip
                                                      refine lv_aload_n hx hb dX9_run_77 rfl (lv_at hl 1 rfl) ?_
                                                      refine lv_aload_n hx hb dX9_run_78 rfl (lv_at hl 1 rfl) ?_
                                                      refine va_get (D := (dC, dI)) (ci := 8) (v := .int 4) (C := RX9) (T := TX9) (N := 28) hx hb hts (by decide +kernel) hown hK hP 6 rfl rfl 10 (by decide) (hts (.fieldLink RX9 87 "UnibusMachineModel" "wrong" "I") (by decide +kernel)) (fun _ h9 => h9) rfl dX9_run_79 ?_
                                                      have hPc := hP.sub (ws' := [(h0, .inr (8, [.int 0, .ref am, .ref ad, .ref ab, .int 0, .int 224, .ref ar, .int 0, .int 0, .int 0, .int 4, .int 0, .int 0, .ref az, .ref ae, .ref ao, .ref an, .ref au, .int 0, .int 0, .int 0, .ref ap, .ref aw, .int 0, .int 0, .int 0, .int 0, .int 0])), (am, .inl (tm, 512, .inl u36.1)), (ar, .inl (tr, 8, .inl u36.2))]) [6, 0, 7] rfl
                                                      have hDc := hD.sub (ws' := [(h0, .inr (8, [.int 0, .ref am, .ref ad, .ref ab, .int 0, .int 224, .ref ar, .int 0, .int 0, .int 0, .int 4, .int 0, .int 0, .ref az, .ref ae, .ref ao, .ref an, .ref au, .int 0, .int 0, .int 0, .ref ap, .ref aw, .int 0, .int 0, .int 0, .int 0, .int 0])), (am, .inl (tm, 512, .inl u36.1)), (ar, .inl (tr, 8, .inl u36.2))]) [6, 0, 7] (by decide) rfl
                                                      have hKc := hK.sub (tys' := [(tm, .int), (tr, .int)]) [0, 6] rfl
                                                      have hFc := va_free (wc := [(h0, .inr (8, [.int 0, .ref am, .ref ad, .ref ab, .int 0, .int 224, .ref ar, .int 0, .int 0, .int 0, .int 4, .int 0, .int 0, .ref az, .ref ae, .ref ao, .ref an, .ref au, .int 0, .int 0, .int 0, .ref ap, .ref aw, .int 0, .int 0, .int 0, .int 0, .int 0])), (am, .inl (tm, 512, .inl u36.1)), (ar, .inl (tr, 8, .inl u36.2))]) hD hS hA [6, 0, 7] rfl
                                                      refine va_callv (va_runV (As := [.int 4]) (rest := []) ⟨hx, hb, hml, hown, hts⟩ (c_m_trap l dC dI h0 am ad ab ar az ae ao an au ap aw tm tr u36.1 u36.2 (((z - 4) - 4) - 4) H.size (by first | assumption | omega | decide) (by first | assumption | omega | decide) (by first | assumption | omega | decide) (by first | assumption | omega | decide) (by first | assumption | omega | decide) (by first | assumption | omega | decide) (by first | assumption | omega | decide) (by first | assumption | omega | decide)) (cwV 1 hts gX9_run_X9_trap rfl rfl rfl (by decide +kernel) ⟨Nat.le_of_ble_eq_true rfl, Nat.le_of_ble_eq_true rfl⟩) ⟨fun a U g mk q => by obtain ⟨q0, q1, qP, qK, qD⟩ := q; exact ⟨q0, q1, qP, va_K.moved (u := U) (U := U.calling g mk a) (Vm.Alike.refl U.vm) qK, qD⟩, va_recv hKc hPc (ci := 8) (q0 := 0) rfl rfl, fun U hU hW => ⟨rfl, by rw [hU], by rw [hU]; exact hPc, va_K.moved hW.alike hKc, hDc.weaken (fun _ _ _ _ => trivial)⟩⟩ rfl rfl hl.1 rfl (lv_room (Nat.le_of_ble_eq_true rfl)) dX9_run_82 ⟨Nat.le_of_ble_eq_true rfl, Nat.le_of_ble_eq_true rfl⟩) hS (fun q _ h => hFc q h) hFc (fun u48 t H1 locs ht hvm hw hB hz1 hk1 hS => ?_)
                                                      obtain ⟨hP1, hK1, hD1⟩ := hB
                                                      rw [ht] at hP1
                                                      have hK1 := va_K.moved hvm.symm hK1
                                                      try dsimp only at hw
                                                      obtain ⟨hP, hD⟩ := va_join (wr := [(az, .inl (tz, 3, .inl rdy)), (ae, .inl (te, 3, .inl (fun _ => 0))), (ao, .inl (to, 3, .inl u39.1)), (an, .inl (tn, 3, .inl u39.2)), (au, .inl (tu, 3, .inl (fun _ => 0)))]) (w1 := [(h0, .inr (8, [.int 0, .ref am, .ref ad, .ref ab, .int 0, .int 224, .ref ar, .int 0, .int 0, .int 0, .int 0, .int 0, .int 0, .ref az, .ref ae, .ref ao, .ref an, .ref au, .int 0, .int 0, .int 0, .ref ap, .ref aw, .int 0, .int 0, .int 0, .int 0, .int 0])), (am, .inl (tm, 512, .inl u48.1)), (ar, .inl (tr, 8, .inl u48.2))]) hP hD [6, 0, 7] [1, 2, 3, 4, 5] rfl rfl (by decide) (by decide) hk1 hFc hP1 hD1
                                                      have hK := (hK.sub (tys' := [(tz, .boolean), (te, .boolean), (to, .boolean), (tn, .boolean), (tu, .int)]) [1, 2, 3, 4, 5] rfl).app hK1
                                                      generalize H1 = H at hP hS ⊢
                                                      have hP : va_P (dC, dI) vwCl [(az, .inl (tz, 3, .inl rdy)), (ae, .inl (te, 3, .inl (fun _ => 0))), (ao, .inl (to, 3, .inl u39.1)), (an, .inl (tn, 3, .inl u39.2)), (au, .inl (tu, 3, .inl (fun _ => 0))), (h0, .inr (8, [.int 0, .ref am, .ref ad, .ref ab, .int 0, .int 224, .ref ar, .int 0, .int 0, .int 0, .int 0, .int 0, .int 0, .ref az, .ref ae, .ref ao, .ref an, .ref au, .int 0, .int 0, .int 0, .ref ap, .ref aw, .int 0, .int 0, .int 0, .int 0, .int 0])), (am, .inl (tm, 512, .inl u48.1)), (ar, .inl (tr, 8, .inl u48.2))] H := hP
                                                      have hD : va_D A [(az, .inl (tz, 3, .inl rdy)), (ae, .inl (te, 3, .inl (fun _ => 0))), (ao, .inl (to, 3, .inl u39.1)), (an, .inl (tn, 3, .inl u39.2)), (au, .inl (tu, 3, .inl (fun _ => 0))), (h0, .inr (8, [.int 0, .ref am, .ref ad, .ref ab, .int 0, .int 224, .ref ar, .int 0, .int 0, .int 0, .int 0, .int 0, .int 0, .ref az, .ref ae, .ref ao, .ref an, .ref au, .int 0, .int 0, .int 0, .ref ap, .ref aw, .int 0, .int 0, .int 0, .int 0, .int 0])), (am, .inl (tm, 512, .inl u48.1)), (ar, .inl (tr, 8, .inl u48.2))] := hD
                                                      have hK : va_K (dC, dI) vwCl [(tz, .boolean), (te, .boolean), (to, .boolean), (tn, .boolean), (tu, .int), (tm, .int), (tr, .int)] s := hK
                                                      refine W.widen (k := 0) (n := 0) (Nat.le_of_ble_eq_true rfl) (Nat.le_of_ble_eq_true rfl) ?_
                                                      obtain ⟨_, _, _, _, _⟩ := hw
                                                      refine lv_aload_n hx hb dX9_run_85 rfl (lv_at hl 1 rfl) ?_
                                                      refine va_get (D := (dC, dI)) (ci := 8) (v := .int 0) (C := RX9) (T := TX9) (N := 28) hx hb hts (by decide +kernel) hown hK hP 5 rfl rfl 9 (by decide) (hts (.fieldLink RX9 22 "UnibusMachineModel" "state" "I") (by decide +kernel)) (fun _ h9 => h9) rfl dX9_run_86 ?_
                                                      refine lv_iconst (v := 2) hx hb dX9_run_89 (by decide) ?_
                                                      refine lv_icmp_ge (tgt := 97) hx hb dX9_run_90 (by decide) (fun c49 => ?_) (fun c49 => ?_)
                                                      · exact absurd c49 (by decide)
                                                      · skip
                                                        refine lv_aload_n hx hb dX9_run_93 rfl (lv_at hl 1 rfl) ?_
                                                        have hPc := hP.sub (ws' := [(h0, .inr (8, [.int 0, .ref am, .ref ad, .ref ab, .int 0, .int 224, .ref ar, .int 0, .int 0, .int 0, .int 0, .int 0, .int 0, .ref az, .ref ae, .ref ao, .ref an, .ref au, .int 0, .int 0, .int 0, .ref ap, .ref aw, .int 0, .int 0, .int 0, .int 0, .int 0])), (az, .inl (tz, 3, .inl rdy)), (ae, .inl (te, 3, .inl (fun _ => 0))), (ao, .inl (to, 3, .inl u39.1)), (an, .inl (tn, 3, .inl u39.2)), (au, .inl (tu, 3, .inl (fun _ => 0)))]) [5, 0, 1, 2, 3, 4] rfl
                                                        have hDc := hD.sub (ws' := [(h0, .inr (8, [.int 0, .ref am, .ref ad, .ref ab, .int 0, .int 224, .ref ar, .int 0, .int 0, .int 0, .int 0, .int 0, .int 0, .ref az, .ref ae, .ref ao, .ref an, .ref au, .int 0, .int 0, .int 0, .ref ap, .ref aw, .int 0, .int 0, .int 0, .int 0, .int 0])), (az, .inl (tz, 3, .inl rdy)), (ae, .inl (te, 3, .inl (fun _ => 0))), (ao, .inl (to, 3, .inl u39.1)), (an, .inl (tn, 3, .inl u39.2)), (au, .inl (tu, 3, .inl (fun _ => 0)))]) [5, 0, 1, 2, 3, 4] (by decide) rfl
                                                        have hKc := hK.sub (tys' := [(tz, .boolean), (te, .boolean), (to, .boolean), (tn, .boolean), (tu, .int)]) [0, 1, 2, 3, 4] rfl
                                                        have hFc := va_free (wc := [(h0, .inr (8, [.int 0, .ref am, .ref ad, .ref ab, .int 0, .int 224, .ref ar, .int 0, .int 0, .int 0, .int 0, .int 0, .int 0, .ref az, .ref ae, .ref ao, .ref an, .ref au, .int 0, .int 0, .int 0, .ref ap, .ref aw, .int 0, .int 0, .int 0, .int 0, .int 0])), (az, .inl (tz, 3, .inl rdy)), (ae, .inl (te, 3, .inl (fun _ => 0))), (ao, .inl (to, 3, .inl u39.1)), (an, .inl (tn, 3, .inl u39.2)), (au, .inl (tu, 3, .inl (fun _ => 0)))]) hD hS hA [5, 0, 1, 2, 3, 4] rfl
                                                        refine va_callv (va_runV (As := []) (rest := []) ⟨hx, hb, hml, hown, hts⟩ (c_m_goOn l dC dI h0 am ad ab ar az ae ao an au ap aw tz te to tn tu u39.1 u39.2 H.size) (cwV 0 hts gX9_run_X9_goOn rfl rfl rfl (by decide +kernel) ⟨Nat.le_of_ble_eq_true rfl, Nat.le_of_ble_eq_true rfl⟩) ⟨fun a U g mk q => by obtain ⟨q0, q1, qP, qK, qD⟩ := q; exact ⟨q0, q1, qP, va_K.moved (u := U) (U := U.calling g mk a) (Vm.Alike.refl U.vm) qK, qD⟩, va_recv hKc hPc (ci := 8) (q0 := 0) rfl rfl, fun U hU hW => ⟨rfl, by rw [hU], by rw [hU]; exact hPc, va_K.moved hW.alike hKc, hDc.weaken (fun _ _ _ _ => trivial)⟩⟩ rfl rfl hl.1 rfl (lv_room (Nat.le_of_ble_eq_true rfl)) dX9_run_94 ⟨Nat.le_of_ble_eq_true rfl, Nat.le_of_ble_eq_true rfl⟩) hS (fun q _ h => hFc q h) hFc (fun u51 t H1 locs ht hvm hw hB hz1 hk1 hS => ?_)
                                                        obtain ⟨hP1, hK1, hD1⟩ := hB
                                                        rw [ht] at hP1
                                                        have hK1 := va_K.moved hvm.symm hK1
                                                        try dsimp only at hw
                                                        obtain ⟨hP, hD⟩ := va_join (wr := [(am, .inl (tm, 512, .inl u48.1)), (ar, .inl (tr, 8, .inl u48.2))]) (w1 := [(h0, .inr (8, [.int 0, .ref am, .ref ad, .ref ab, .int 0, .int 224, .ref ar, .int 0, .int 0, .int 0, .int 0, .int 0, .int 0, .ref az, .ref ae, .ref ao, .ref an, .ref au, .int 0, .int 0, .int 0, .ref ap, .ref aw, .int 0, .int 0, .int 0, .int 0, .int 0])), (az, .inl (tz, 3, .inl rdy)), (ae, .inl (te, 3, .inl (fun _ => 0))), (ao, .inl (to, 3, .inl u51.1)), (an, .inl (tn, 3, .inl u51.2)), (au, .inl (tu, 3, .inl (fun _ => 0)))]) hP hD [5, 0, 1, 2, 3, 4] [6, 7] rfl rfl (by decide) (by decide) hk1 hFc hP1 hD1
                                                        have hK := (hK.sub (tys' := [(tm, .int), (tr, .int)]) [5, 6] rfl).app hK1
                                                        generalize H1 = H at hP hS ⊢
                                                        have hP : va_P (dC, dI) vwCl [(am, .inl (tm, 512, .inl u48.1)), (ar, .inl (tr, 8, .inl u48.2)), (h0, .inr (8, [.int 0, .ref am, .ref ad, .ref ab, .int 0, .int 224, .ref ar, .int 0, .int 0, .int 0, .int 0, .int 0, .int 0, .ref az, .ref ae, .ref ao, .ref an, .ref au, .int 0, .int 0, .int 0, .ref ap, .ref aw, .int 0, .int 0, .int 0, .int 0, .int 0])), (az, .inl (tz, 3, .inl rdy)), (ae, .inl (te, 3, .inl (fun _ => 0))), (ao, .inl (to, 3, .inl u51.1)), (an, .inl (tn, 3, .inl u51.2)), (au, .inl (tu, 3, .inl (fun _ => 0)))] H := hP
                                                        have hD : va_D A [(am, .inl (tm, 512, .inl u48.1)), (ar, .inl (tr, 8, .inl u48.2)), (h0, .inr (8, [.int 0, .ref am, .ref ad, .ref ab, .int 0, .int 224, .ref ar, .int 0, .int 0, .int 0, .int 0, .int 0, .int 0, .ref az, .ref ae, .ref ao, .ref an, .ref au, .int 0, .int 0, .int 0, .ref ap, .ref aw, .int 0, .int 0, .int 0, .int 0, .int 0])), (az, .inl (tz, 3, .inl rdy)), (ae, .inl (te, 3, .inl (fun _ => 0))), (ao, .inl (to, 3, .inl u51.1)), (an, .inl (tn, 3, .inl u51.2)), (au, .inl (tu, 3, .inl (fun _ => 0)))] := hD
                                                        have hK : va_K (dC, dI) vwCl [(tm, .int), (tr, .int), (tz, .boolean), (te, .boolean), (to, .boolean), (tn, .boolean), (tu, .int)] s := hK
                                                        refine W.widen (k := 0) (n := 0) (Nat.le_of_ble_eq_true rfl) (Nat.le_of_ble_eq_true rfl) ?_
                                                        refine lv_iinc (v := 4) (lv' := [(2, .int 4), (0, .ref h0), (1, .int 4)]) hx hb dX9_run_97 hl (k := 0) rfl (by decide) (by decide) rfl (fun ls hl => ?_)
                                                        refine lv_goto (tgt := 34) hx hb dX9_run_100 (by decide) ?_
                                                        refine lv_iload_n hx hb dX9_run_34 rfl (lv_at hl 0 rfl) ?_
                                                        refine lv_iload_n hx hb dX9_run_35 rfl (lv_at hl 2 rfl) ?_
                                                        refine lv_icmp_ge (tgt := 103) hx hb dX9_run_36 (by decide) (fun c52 => ?_) (fun c52 => ?_)
                                                        · skip
                                                          refine lv_iload_n hx hb dX9_run_103 rfl (lv_at hl 0 rfl) ?_
                                                          have hx53 : u48.1 (2 : Int32).toNatClampNeg = 1 := by first | assumption | omega
                                                          have hx54 : u48.1 (3 : Int32).toNatClampNeg = 224 := by first | assumption | omega
                                                          have hx55 : ∀ i : Nat, 0 ≤ (u48.1 i).toInt := by first | assumption | omega
                                                          have hx56 : u48.2 (7 : Int32).toNatClampNeg = 1 := by first | assumption | omega
                                                          have hx57 : (u48.2 (6 : Int32).toNatClampNeg).toInt = z - 16 := by first | assumption | omega
                                                          have hP9 := hP.sub (ws' := [(h0, .inr (8, [.int 0, .ref am, .ref ad, .ref ab, .int 0, .int 224, .ref ar, .int 0, .int 0, .int 0, .int 0, .int 0, .int 0, .ref az, .ref ae, .ref ao, .ref an, .ref au, .int 0, .int 0, .int 0, .ref ap, .ref aw, .int 0, .int 0, .int 0, .int 0, .int 0])), (am, .inl (tm, 512, .inl u48.1)), (ar, .inl (tr, 8, .inl u48.2)), (az, .inl (tz, 3, .inl rdy)), (ae, .inl (te, 3, .inl (fun _ => 0))), (ao, .inl (to, 3, .inl u51.1)), (an, .inl (tn, 3, .inl u51.2)), (au, .inl (tu, 3, .inl (fun _ => 0)))]) [2, 0, 1, 3, 4, 5, 6, 7] rfl
                                                          have hD9 := hD.sub (ws' := [(h0, .inr (8, [.int 0, .ref am, .ref ad, .ref ab, .int 0, .int 224, .ref ar, .int 0, .int 0, .int 0, .int 0, .int 0, .int 0, .ref az, .ref ae, .ref ao, .ref an, .ref au, .int 0, .int 0, .int 0, .ref ap, .ref aw, .int 0, .int 0, .int 0, .int 0, .int 0])), (am, .inl (tm, 512, .inl u48.1)), (ar, .inl (tr, 8, .inl u48.2)), (az, .inl (tz, 3, .inl rdy)), (ae, .inl (te, 3, .inl (fun _ => 0))), (ao, .inl (to, 3, .inl u51.1)), (an, .inl (tn, 3, .inl u51.2)), (au, .inl (tu, 3, .inl (fun _ => 0)))]) [2, 0, 1, 3, 4, 5, 6, 7] (by decide) rfl
                                                          have hK9 := hK.sub (tys' := [(tm, .int), (tr, .int), (tz, .boolean), (te, .boolean), (to, .boolean), (tn, .boolean), (tu, .int)]) [0, 1, 2, 3, 4, 5, 6] rfl
                                                          exact W.iret (v := 4) hx hb hr (fun t ht hW => ⟨⟨4, (u48.1, u48.2, u51.1, u51.2), rfl, ⟨rfl, hx53, hx54, hx55, hx56, hx57⟩, by rw [ht]; exact hP9, va_K.moved hW.alike hK9, hD9⟩, hS.F ht⟩) hS.2.2 dX9_run_104
                                                        · exact absurd c52 (by decide)
      · exact absurd c3 (by decide)
    · exact absurd c2 (by decide)
