set_option maxHeartbeats 4000000 in
set_option maxRecDepth 100000 in
theorem c_misWord (l : Launch) (dC : Nat → ClassId) (dI : Nat → Nat → Nat) (p0 : Int32) (sz : Nat) : Met l yX9_isWord wsX9_isWord ({ frames := 0, cells := 0, slots := 0, locals := 0 } : Room) (va_Pc [.int p0] (fun U => U.heap.size = sz ∧ va_P (dC, dI) vwCl [] U.heap ∧ va_K (dC, dI) vwCl [] U ∧ va_D (fun _ => True) [])) (va_Qi (fun (r : Int32) (u : Unit) => (r = 1 ∧ 0 ≤ p0.toInt ∧ p0.toInt ≤ 65535) ∨ (r = 0 ∧ (p0.toInt < 0 ∨ 65535 < p0.toInt))) (fun (u : Unit) (t : State) => va_P (dC, dI) vwCl [] t.heap ∧ va_K (dC, dI) vwCl [] t ∧ va_D (va_A [] sz) []) (va_A [] sz)) 0 0 (va_A [] sz) := by
  refine Met.ofW (cc := cX9_isWord) (maxL := 1) (ret := (some .boolean)) (by decide) rfl ?_
  intro p e s m args below meth c s₁ B hml hv
  obtain ⟨rfl, hsz, hP, hK, hD0⟩ := hv
  have hx := B.exec
  have hb := B.bytes
  have hr := B.returns
  have hts := atoms_spec (ws := wsX9_isWord) B.pre
  have hown : s.vm.findClass RX9 = some m.cls := findClass_of_methodNamed B.named
  have hlocks := B.notSynchronized
  subst hsz
  have hD := hD0.self (sz := s.heap.size)
  generalize hAe : va_A [] s.heap.size = A at hD ⊢
  have hA : ∀ q : Nat, s.heap.size ≤ q → A q := fun q h => by rw [← hAe]; exact Or.inr h
  have hS0 : ∀ G : Heap, s.heap = G → va_S A s.heap G [] := fun G h => by subst h; exact va_S.rf
  generalize hHe : s.heap = H at hP ⊢
  have hS := hS0 H hHe
  have hP : va_P (dC, dI) vwCl [] H := hP
  have hD : va_D A [] := hD
  have hK : va_K (dC, dI) vwCl [] s := hK
  have hl := lv_entry ([.int p0]) (n := 1) (Nat.le_of_ble_eq_true rfl)
  rw [lg_entry_eq]
  generalize (lg_sl ([.int p0]) ++ List.replicate (1 - (lg_sl ([.int p0])).length) Slot.unset).toArray = ls at hl ⊢
  have hl : lv_has ls 1 [(0, .int p0)] := hl
  have kk0 : (0 : Int32).toInt = 0 := by decide
  have kk65536 : (65536 : Int32).toInt = 65536 := by decide
  refine lv_iload_n hx hb dX9_isWord_0 rfl (lv_at hl 0 rfl) ?_
  refine lv_if_lt (tgt := 14) hx hb dX9_isWord_1 (by decide) (fun c1 => ?_) (fun c1 => ?_)
  · have c1 := fz_lt.mp c1
    have kk0 : (0 : Int32).toInt = 0 := by decide
    refine lv_iconst (v := 0) hx hb dX9_isWord_14 (by decide) ?_
    have hP9 := hP.sub (ws' := []) [] rfl
    have hD9 := hD.sub (ws' := []) [] (by decide) rfl
    have hK9 := hK.sub (tys' := []) [] rfl
    exact W.zret (v := 0) hx hb hr (by decide) (fun t ht hW => ⟨⟨0, (), rfl, (by first | (exact Or.inl ⟨rfl, by omega, by omega⟩) | (exact Or.inl ⟨rfl, by omega⟩) | (exact Or.inr ⟨rfl, by omega⟩) | (exact Or.inr ⟨rfl, by omega, by omega⟩)), by rw [ht]; exact hP9, va_K.moved hW.alike hK9, hD9⟩, hS.F ht⟩) hS.2.2 dX9_isWord_15
  · have c1 := fz_nlt.mp c1
    have kk0 : (0 : Int32).toInt = 0 := by decide
    refine lv_iload_n hx hb dX9_isWord_4 rfl (lv_at hl 0 rfl) ?_
    refine lv_ldc (v := 65536) hx hb hown (hts (.constant RX9 51 (65536)) (by decide +kernel)) dX9_isWord_5 ?_
    refine lv_icmp_ge (tgt := 14) hx hb dX9_isWord_7 (by decide) (fun c2 => ?_) (fun c2 => ?_)
    · have c2 := fz_le.mp c2
      have kk65536 : (65536 : Int32).toInt = 65536 := by decide
      refine lv_iconst (v := 0) hx hb dX9_isWord_14 (by decide) ?_
      have hP9 := hP.sub (ws' := []) [] rfl
      have hD9 := hD.sub (ws' := []) [] (by decide) rfl
      have hK9 := hK.sub (tys' := []) [] rfl
      exact W.zret (v := 0) hx hb hr (by decide) (fun t ht hW => ⟨⟨0, (), rfl, (by first | (exact Or.inl ⟨rfl, by omega, by omega⟩) | (exact Or.inl ⟨rfl, by omega⟩) | (exact Or.inr ⟨rfl, by omega⟩) | (exact Or.inr ⟨rfl, by omega, by omega⟩)), by rw [ht]; exact hP9, va_K.moved hW.alike hK9, hD9⟩, hS.F ht⟩) hS.2.2 dX9_isWord_15
    · have c2 := fz_nle.mp c2
      have kk65536 : (65536 : Int32).toInt = 65536 := by decide
      refine lv_iconst (v := 1) hx hb dX9_isWord_10 (by decide) ?_
      refine lv_goto (tgt := 15) hx hb dX9_isWord_11 (by decide) ?_
      have hP9 := hP.sub (ws' := []) [] rfl
      have hD9 := hD.sub (ws' := []) [] (by decide) rfl
      have hK9 := hK.sub (tys' := []) [] rfl
      exact W.zret (v := 1) hx hb hr (by decide) (fun t ht hW => ⟨⟨1, (), rfl, (by first | (exact Or.inl ⟨rfl, by omega, by omega⟩) | (exact Or.inl ⟨rfl, by omega⟩) | (exact Or.inr ⟨rfl, by omega⟩) | (exact Or.inr ⟨rfl, by omega, by omega⟩)), by rw [ht]; exact hP9, va_K.moved hW.alike hK9, hD9⟩, hS.F ht⟩) hS.2.2 dX9_isWord_15
set_option maxHeartbeats 4000000 in
set_option maxRecDepth 100000 in
theorem c_mcell (l : Launch) (dC : Nat → ClassId) (dI : Nat → Nat → Nat) (p0 : Int32) (sz : Nat) : Met l yX9_cell wsX9_cell ({ frames := 0, cells := 0, slots := 0, locals := 0 } : Room) (va_Pc [.int p0] (fun U => U.heap.size = sz ∧ va_P (dC, dI) vwCl [] U.heap ∧ va_K (dC, dI) vwCl [] U ∧ va_D (fun _ => True) [])) (va_Qi (fun (r : Int32) (u : Unit) => (r = 1 ∧ (0 ≤ p0.toInt ∧ p0.toInt < 1024 ∧ p0.toInt % 2 = 0)) ∨ (r = 0 ∧ (p0.toInt < 0 ∨ 1024 ≤ p0.toInt ∨ p0.toInt % 2 = 1))) (fun (u : Unit) (t : State) => va_P (dC, dI) vwCl [] t.heap ∧ va_K (dC, dI) vwCl [] t ∧ va_D (va_A [] sz) []) (va_A [] sz)) 0 0 (va_A [] sz) := by
  refine Met.ofW (cc := cX9_cell) (maxL := 1) (ret := (some .boolean)) (by decide) rfl ?_
  intro p e s m args below meth c s₁ B hml hv
  obtain ⟨rfl, hsz, hP, hK, hD0⟩ := hv
  have hx := B.exec
  have hb := B.bytes
  have hr := B.returns
  have hts := atoms_spec (ws := wsX9_cell) B.pre
  have hown : s.vm.findClass RX9 = some m.cls := findClass_of_methodNamed B.named
  have hlocks := B.notSynchronized
  subst hsz
  have hD := hD0.self (sz := s.heap.size)
  generalize hAe : va_A [] s.heap.size = A at hD ⊢
  have hA : ∀ q : Nat, s.heap.size ≤ q → A q := fun q h => by rw [← hAe]; exact Or.inr h
  have hS0 : ∀ G : Heap, s.heap = G → va_S A s.heap G [] := fun G h => by subst h; exact va_S.rf
  generalize hHe : s.heap = H at hP ⊢
  have hS := hS0 H hHe
  have hP : va_P (dC, dI) vwCl [] H := hP
  have hD : va_D A [] := hD
  have hK : va_K (dC, dI) vwCl [] s := hK
  have hl := lv_entry ([.int p0]) (n := 1) (Nat.le_of_ble_eq_true rfl)
  rw [lg_entry_eq]
  generalize (lg_sl ([.int p0]) ++ List.replicate (1 - (lg_sl ([.int p0])).length) Slot.unset).toArray = ls at hl ⊢
  have hl : lv_has ls 1 [(0, .int p0)] := hl
  have kk0 : (0 : Int32).toInt = 0 := by decide
  have kk1024 : (1024 : Int32).toInt = 1024 := by decide
  refine lv_iload_n hx hb dX9_cell_0 rfl (lv_at hl 0 rfl) ?_
  refine lv_if_lt (tgt := 21) hx hb dX9_cell_1 (by decide) (fun c1 => ?_) (fun c1 => ?_)
  · have c1 := fz_lt.mp c1
    have kk0 : (0 : Int32).toInt = 0 := by decide
    refine lv_iconst (v := 0) hx hb dX9_cell_21 (by decide) ?_
    have hP9 := hP.sub (ws' := []) [] rfl
    have hD9 := hD.sub (ws' := []) [] (by decide) rfl
    have hK9 := hK.sub (tys' := []) [] rfl
    exact W.zret (v := 0) hx hb hr (by decide) (fun t ht hW => ⟨⟨0, (), rfl, (by first | (exact Or.inl ⟨rfl, by omega, by omega⟩) | (exact Or.inl ⟨rfl, by omega⟩) | (exact Or.inr ⟨rfl, by omega⟩) | (exact Or.inr ⟨rfl, by omega, by omega⟩)), by rw [ht]; exact hP9, va_K.moved hW.alike hK9, hD9⟩, hS.F ht⟩) hS.2.2 dX9_cell_22
  · have c1 := fz_nlt.mp c1
    have kk0 : (0 : Int32).toInt = 0 := by decide
    refine lv_iload_n hx hb dX9_cell_4 rfl (lv_at hl 0 rfl) ?_
    refine lv_sipush (v := 1024) hx hb dX9_cell_5 (by decide) ?_
    refine lv_icmp_ge (tgt := 21) hx hb dX9_cell_8 (by decide) (fun c2 => ?_) (fun c2 => ?_)
    · have c2 := fz_le.mp c2
      have kk1024 : (1024 : Int32).toInt = 1024 := by decide
      refine lv_iconst (v := 0) hx hb dX9_cell_21 (by decide) ?_
      have hP9 := hP.sub (ws' := []) [] rfl
      have hD9 := hD.sub (ws' := []) [] (by decide) rfl
      have hK9 := hK.sub (tys' := []) [] rfl
      exact W.zret (v := 0) hx hb hr (by decide) (fun t ht hW => ⟨⟨0, (), rfl, (by first | (exact Or.inl ⟨rfl, by omega, by omega⟩) | (exact Or.inl ⟨rfl, by omega⟩) | (exact Or.inr ⟨rfl, by omega⟩) | (exact Or.inr ⟨rfl, by omega, by omega⟩)), by rw [ht]; exact hP9, va_K.moved hW.alike hK9, hD9⟩, hS.F ht⟩) hS.2.2 dX9_cell_22
    · have c2 := fz_nle.mp c2
      have kk1024 : (1024 : Int32).toInt = 1024 := by decide
      refine lv_iload_n hx hb dX9_cell_11 rfl (lv_at hl 0 rfl) ?_
      refine lv_iconst (v := 2) hx hb dX9_cell_12 (by decide) ?_
      refine lv_irem hx hb dX9_cell_13 (by decide) ?_
      have f1 := fz_rem2 p0 (by omega)
      refine lv_if_ne (tgt := 21) hx hb dX9_cell_14 (by decide) (fun c3 => ?_) (fun c3 => ?_)
      · have c3 := fz_ne.mp c3
        have kk0 : (0 : Int32).toInt = 0 := by decide
        refine lv_iconst (v := 0) hx hb dX9_cell_21 (by decide) ?_
        have hP9 := hP.sub (ws' := []) [] rfl
        have hD9 := hD.sub (ws' := []) [] (by decide) rfl
        have hK9 := hK.sub (tys' := []) [] rfl
        exact W.zret (v := 0) hx hb hr (by decide) (fun t ht hW => ⟨⟨0, (), rfl, (by first | (exact Or.inl ⟨rfl, by omega, by omega⟩) | (exact Or.inl ⟨rfl, by omega⟩) | (exact Or.inr ⟨rfl, by omega⟩) | (exact Or.inr ⟨rfl, by omega, by omega⟩)), by rw [ht]; exact hP9, va_K.moved hW.alike hK9, hD9⟩, hS.F ht⟩) hS.2.2 dX9_cell_22
      · have c3 := fz_eq.mp c3
        have kk0 : (0 : Int32).toInt = 0 := by decide
        refine lv_iconst (v := 1) hx hb dX9_cell_17 (by decide) ?_
        refine lv_goto (tgt := 22) hx hb dX9_cell_18 (by decide) ?_
        have hP9 := hP.sub (ws' := []) [] rfl
        have hD9 := hD.sub (ws' := []) [] (by decide) rfl
        have hK9 := hK.sub (tys' := []) [] rfl
        exact W.zret (v := 1) hx hb hr (by decide) (fun t ht hW => ⟨⟨1, (), rfl, (by first | (exact Or.inl ⟨rfl, by omega, by omega⟩) | (exact Or.inl ⟨rfl, by omega⟩) | (exact Or.inr ⟨rfl, by omega⟩) | (exact Or.inr ⟨rfl, by omega, by omega⟩)), by rw [ht]; exact hP9, va_K.moved hW.alike hK9, hD9⟩, hS.F ht⟩) hS.2.2 dX9_cell_22
set_option maxHeartbeats 4000000 in
set_option maxRecDepth 100000 in
theorem c_mout (l : Launch) (dC : Nat → ClassId) (dI : Nat → Nat → Nat) (p0 : Int32) (p1 : Int32) (sz : Nat) : Met l yX9_out wsX9_out ({ frames := 0, cells := 0, slots := 0, locals := 0 } : Room) (va_Pc [.int p0, .int p1] (fun U => U.heap.size = sz ∧ va_P (dC, dI) vwCl [] U.heap ∧ va_K (dC, dI) vwCl [] U ∧ va_D (fun _ => True) [])) (va_Qi (fun (r : Int32) (u : Unit) => (r = 0 ∧ 0 ≤ p0.toInt ∧ p0.toInt < p1.toInt) ∨ (r = 1 ∧ (p0.toInt < 0 ∨ p1.toInt ≤ p0.toInt))) (fun (u : Unit) (t : State) => va_P (dC, dI) vwCl [] t.heap ∧ va_K (dC, dI) vwCl [] t ∧ va_D (va_A [] sz) []) (va_A [] sz)) 0 0 (va_A [] sz) := by
  refine Met.ofW (cc := cX9_out) (maxL := 2) (ret := (some .boolean)) (by decide) rfl ?_
  intro p e s m args below meth c s₁ B hml hv
  obtain ⟨rfl, hsz, hP, hK, hD0⟩ := hv
  have hx := B.exec
  have hb := B.bytes
  have hr := B.returns
  have hts := atoms_spec (ws := wsX9_out) B.pre
  have hown : s.vm.findClass RX9 = some m.cls := findClass_of_methodNamed B.named
  have hlocks := B.notSynchronized
  subst hsz
  have hD := hD0.self (sz := s.heap.size)
  generalize hAe : va_A [] s.heap.size = A at hD ⊢
  have hA : ∀ q : Nat, s.heap.size ≤ q → A q := fun q h => by rw [← hAe]; exact Or.inr h
  have hS0 : ∀ G : Heap, s.heap = G → va_S A s.heap G [] := fun G h => by subst h; exact va_S.rf
  generalize hHe : s.heap = H at hP ⊢
  have hS := hS0 H hHe
  have hP : va_P (dC, dI) vwCl [] H := hP
  have hD : va_D A [] := hD
  have hK : va_K (dC, dI) vwCl [] s := hK
  have hl := lv_entry ([.int p0, .int p1]) (n := 2) (Nat.le_of_ble_eq_true rfl)
  rw [lg_entry_eq]
  generalize (lg_sl ([.int p0, .int p1]) ++ List.replicate (2 - (lg_sl ([.int p0, .int p1])).length) Slot.unset).toArray = ls at hl ⊢
  have hl : lv_has ls 2 [(0, .int p0), (1, .int p1)] := hl
  have kk0 : (0 : Int32).toInt = 0 := by decide
  refine lv_iload_n hx hb dX9_out_0 rfl (lv_at hl 0 rfl) ?_
  refine lv_if_lt (tgt := 9) hx hb dX9_out_1 (by decide) (fun c1 => ?_) (fun c1 => ?_)
  · have c1 := fz_lt.mp c1
    have kk0 : (0 : Int32).toInt = 0 := by decide
    refine lv_iconst (v := 1) hx hb dX9_out_9 (by decide) ?_
    refine lv_goto (tgt := 14) hx hb dX9_out_10 (by decide) ?_
    have hP9 := hP.sub (ws' := []) [] rfl
    have hD9 := hD.sub (ws' := []) [] (by decide) rfl
    have hK9 := hK.sub (tys' := []) [] rfl
    exact W.zret (v := 1) hx hb hr (by decide) (fun t ht hW => ⟨⟨1, (), rfl, (by first | (exact Or.inl ⟨rfl, by omega, by omega⟩) | (exact Or.inl ⟨rfl, by omega⟩) | (exact Or.inr ⟨rfl, by omega⟩) | (exact Or.inr ⟨rfl, by omega, by omega⟩)), by rw [ht]; exact hP9, va_K.moved hW.alike hK9, hD9⟩, hS.F ht⟩) hS.2.2 dX9_out_14
  · have c1 := fz_nlt.mp c1
    have kk0 : (0 : Int32).toInt = 0 := by decide
    refine lv_iload_n hx hb dX9_out_4 rfl (lv_at hl 0 rfl) ?_
    refine lv_iload_n hx hb dX9_out_5 rfl (lv_at hl 1 rfl) ?_
    refine lv_icmp_lt (tgt := 13) hx hb dX9_out_6 (by decide) (fun c2 => ?_) (fun c2 => ?_)
    · have c2 := fz_lt.mp c2
      refine lv_iconst (v := 0) hx hb dX9_out_13 (by decide) ?_
      have hP9 := hP.sub (ws' := []) [] rfl
      have hD9 := hD.sub (ws' := []) [] (by decide) rfl
      have hK9 := hK.sub (tys' := []) [] rfl
      exact W.zret (v := 0) hx hb hr (by decide) (fun t ht hW => ⟨⟨0, (), rfl, (by first | (exact Or.inl ⟨rfl, by omega, by omega⟩) | (exact Or.inl ⟨rfl, by omega⟩) | (exact Or.inr ⟨rfl, by omega⟩) | (exact Or.inr ⟨rfl, by omega, by omega⟩)), by rw [ht]; exact hP9, va_K.moved hW.alike hK9, hD9⟩, hS.F ht⟩) hS.2.2 dX9_out_14
    · have c2 := fz_nlt.mp c2
      refine lv_iconst (v := 1) hx hb dX9_out_9 (by decide) ?_
      refine lv_goto (tgt := 14) hx hb dX9_out_10 (by decide) ?_
      have hP9 := hP.sub (ws' := []) [] rfl
      have hD9 := hD.sub (ws' := []) [] (by decide) rfl
      have hK9 := hK.sub (tys' := []) [] rfl
      exact W.zret (v := 1) hx hb hr (by decide) (fun t ht hW => ⟨⟨1, (), rfl, (by first | (exact Or.inl ⟨rfl, by omega, by omega⟩) | (exact Or.inl ⟨rfl, by omega⟩) | (exact Or.inr ⟨rfl, by omega⟩) | (exact Or.inr ⟨rfl, by omega, by omega⟩)), by rw [ht]; exact hP9, va_K.moved hW.alike hK9, hD9⟩, hS.F ht⟩) hS.2.2 dX9_out_14
set_option maxHeartbeats 4000000 in
set_option maxRecDepth 100000 in
theorem c_mbit0 (l : Launch) (dC : Nat → ClassId) (dI : Nat → Nat → Nat) (p1 : Int32) (sz : Nat) : Met l yX9_bit wsX9_bit ({ frames := 0, cells := 0, slots := 0, locals := 0 } : Room) (va_Pc [.int 0, .int p1] (fun U => U.heap.size = sz ∧ va_P (dC, dI) vwCl [] U.heap ∧ va_K (dC, dI) vwCl [] U ∧ va_D (fun _ => True) [])) (va_Qi (fun (r : Int32) (u : Unit) => r = 0) (fun (u : Unit) (t : State) => va_P (dC, dI) vwCl [] t.heap ∧ va_K (dC, dI) vwCl [] t ∧ va_D (va_A [] sz) []) (va_A [] sz)) 0 0 (va_A [] sz) := by
  refine Met.ofW (cc := cX9_bit) (maxL := 2) (ret := (some .int)) (by decide) rfl ?_
  intro p e s m args below meth c s₁ B hml hv
  obtain ⟨rfl, hsz, hP, hK, hD0⟩ := hv
  have hx := B.exec
  have hb := B.bytes
  have hr := B.returns
  have hts := atoms_spec (ws := wsX9_bit) B.pre
  have hown : s.vm.findClass RX9 = some m.cls := findClass_of_methodNamed B.named
  have hlocks := B.notSynchronized
  subst hsz
  have hD := hD0.self (sz := s.heap.size)
  generalize hAe : va_A [] s.heap.size = A at hD ⊢
  have hA : ∀ q : Nat, s.heap.size ≤ q → A q := fun q h => by rw [← hAe]; exact Or.inr h
  have hS0 : ∀ G : Heap, s.heap = G → va_S A s.heap G [] := fun G h => by subst h; exact va_S.rf
  generalize hHe : s.heap = H at hP ⊢
  have hS := hS0 H hHe
  have hP : va_P (dC, dI) vwCl [] H := hP
  have hD : va_D A [] := hD
  have hK : va_K (dC, dI) vwCl [] s := hK
  have hl := lv_entry ([.int 0, .int p1]) (n := 2) (Nat.le_of_ble_eq_true rfl)
  rw [lg_entry_eq]
  generalize (lg_sl ([.int 0, .int p1]) ++ List.replicate (2 - (lg_sl ([.int 0, .int p1])).length) Slot.unset).toArray = ls at hl ⊢
  have hl : lv_has ls 2 [(0, .int 0), (1, .int p1)] := hl
  refine lv_iload_n hx hb dX9_bit_0 rfl (lv_at hl 0 rfl) ?_
  refine lv_if_eq (tgt := 8) hx hb dX9_bit_1 (by decide) (fun c1 => ?_) (fun c1 => ?_)
  · skip
    refine lv_iconst (v := 0) hx hb dX9_bit_8 (by decide) ?_
    have hP9 := hP.sub (ws' := []) [] rfl
    have hD9 := hD.sub (ws' := []) [] (by decide) rfl
    have hK9 := hK.sub (tys' := []) [] rfl
    exact W.iret (v := 0) hx hb hr (fun t ht hW => ⟨⟨0, (), rfl, rfl, by rw [ht]; exact hP9, va_K.moved hW.alike hK9, hD9⟩, hS.F ht⟩) hS.2.2 dX9_bit_9
  · exact absurd c1 (by decide)
set_option maxHeartbeats 4000000 in
set_option maxRecDepth 100000 in
theorem c_mbit128 (l : Launch) (dC : Nat → ClassId) (dI : Nat → Nat → Nat)  (sz : Nat) : Met l yX9_bit wsX9_bit ({ frames := 0, cells := 0, slots := 0, locals := 0 } : Room) (va_Pc [.int 1, .int 128] (fun U => U.heap.size = sz ∧ va_P (dC, dI) vwCl [] U.heap ∧ va_K (dC, dI) vwCl [] U ∧ va_D (fun _ => True) [])) (va_Qi (fun (r : Int32) (u : Unit) => r = 128) (fun (u : Unit) (t : State) => va_P (dC, dI) vwCl [] t.heap ∧ va_K (dC, dI) vwCl [] t ∧ va_D (va_A [] sz) []) (va_A [] sz)) 0 0 (va_A [] sz) := by
  refine Met.ofW (cc := cX9_bit) (maxL := 2) (ret := (some .int)) (by decide) rfl ?_
  intro p e s m args below meth c s₁ B hml hv
  obtain ⟨rfl, hsz, hP, hK, hD0⟩ := hv
  have hx := B.exec
  have hb := B.bytes
  have hr := B.returns
  have hts := atoms_spec (ws := wsX9_bit) B.pre
  have hown : s.vm.findClass RX9 = some m.cls := findClass_of_methodNamed B.named
  have hlocks := B.notSynchronized
  subst hsz
  have hD := hD0.self (sz := s.heap.size)
  generalize hAe : va_A [] s.heap.size = A at hD ⊢
  have hA : ∀ q : Nat, s.heap.size ≤ q → A q := fun q h => by rw [← hAe]; exact Or.inr h
  have hS0 : ∀ G : Heap, s.heap = G → va_S A s.heap G [] := fun G h => by subst h; exact va_S.rf
  generalize hHe : s.heap = H at hP ⊢
  have hS := hS0 H hHe
  have hP : va_P (dC, dI) vwCl [] H := hP
  have hD : va_D A [] := hD
  have hK : va_K (dC, dI) vwCl [] s := hK
  have hl := lv_entry ([.int 1, .int 128]) (n := 2) (Nat.le_of_ble_eq_true rfl)
  rw [lg_entry_eq]
  generalize (lg_sl ([.int 1, .int 128]) ++ List.replicate (2 - (lg_sl ([.int 1, .int 128])).length) Slot.unset).toArray = ls at hl ⊢
  have hl : lv_has ls 2 [(0, .int 1), (1, .int 128)] := hl
  refine lv_iload_n hx hb dX9_bit_0 rfl (lv_at hl 0 rfl) ?_
  refine lv_if_eq (tgt := 8) hx hb dX9_bit_1 (by decide) (fun c1 => ?_) (fun c1 => ?_)
  · exact absurd c1 (by decide)
  · skip
    refine lv_iload_n hx hb dX9_bit_4 rfl (lv_at hl 1 rfl) ?_
    refine lv_goto (tgt := 9) hx hb dX9_bit_5 (by decide) ?_
    have hP9 := hP.sub (ws' := []) [] rfl
    have hD9 := hD.sub (ws' := []) [] (by decide) rfl
    have hK9 := hK.sub (tys' := []) [] rfl
    exact W.iret (v := 128) hx hb hr (fun t ht hW => ⟨⟨128, (), rfl, rfl, by rw [ht]; exact hP9, va_K.moved hW.alike hK9, hD9⟩, hS.F ht⟩) hS.2.2 dX9_bit_9
set_option maxHeartbeats 4000000 in
set_option maxRecDepth 100000 in
theorem c_mthrown (l : Launch) (dC : Nat → ClassId) (dI : Nat → Nat → Nat) (h0 : Nat) (th : Int32) (fs : List Value) (sz : Nat) : Met l yX9_thrown wsX9_thrown ({ frames := 0, cells := 0, slots := 0, locals := 0 } : Room) (va_Pc [.ref h0] (fun U => U.heap.size = sz ∧ va_P (dC, dI) vwCl [(h0, .inr (8, .int th :: fs))] U.heap ∧ va_K (dC, dI) vwCl [] U ∧ va_D (fun _ => True) [(h0, .inr (8, .int th :: fs))])) (va_Qi (fun (r : Int32) (u : Unit) => r = th) (fun (u : Unit) (t : State) => va_P (dC, dI) vwCl [] t.heap ∧ va_K (dC, dI) vwCl [] t ∧ va_D (va_A [(h0, .inr (8, .int th :: fs))] sz) []) (va_A [(h0, .inr (8, .int th :: fs))] sz)) 0 0 (va_A [(h0, .inr (8, .int th :: fs))] sz) := by
  refine Met.ofW (cc := cX9_thrown) (maxL := 1) (ret := (some .int)) (by decide) rfl ?_
  intro p e s m args below meth c s₁ B hml hv
  obtain ⟨rfl, hsz, hP, hK, hD0⟩ := hv
  have hx := B.exec
  have hb := B.bytes
  have hr := B.returns
  have hts := atoms_spec (ws := wsX9_thrown) B.pre
  have hown : s.vm.findClass RX9 = some m.cls := findClass_of_methodNamed B.named
  have hlocks := B.notSynchronized
  subst hsz
  have hD := hD0.self (sz := s.heap.size)
  generalize hAe : va_A [(h0, .inr (8, .int th :: fs))] s.heap.size = A at hD ⊢
  have hA : ∀ q : Nat, s.heap.size ≤ q → A q := fun q h => by rw [← hAe]; exact Or.inr h
  have hS0 : ∀ G : Heap, s.heap = G → va_S A s.heap G [] := fun G h => by subst h; exact va_S.rf
  generalize hHe : s.heap = H at hP ⊢
  have hS := hS0 H hHe
  have hP : va_P (dC, dI) vwCl [(h0, .inr (8, .int th :: fs))] H := hP
  have hD : va_D A [(h0, .inr (8, .int th :: fs))] := hD
  have hK : va_K (dC, dI) vwCl [] s := hK
  have hl := lv_entry ([.ref h0]) (n := 1) (Nat.le_of_ble_eq_true rfl)
  rw [lg_entry_eq]
  generalize (lg_sl ([.ref h0]) ++ List.replicate (1 - (lg_sl ([.ref h0])).length) Slot.unset).toArray = ls at hl ⊢
  have hl : lv_has ls 1 [(0, .ref h0)] := hl
  refine lv_aload_n hx hb dX9_thrown_0 rfl (lv_at hl 0 rfl) ?_
  refine va_get (D := (dC, dI)) (ci := 8) (v := .int th) (C := RX9) (T := TX9) (N := 28) hx hb hts (by decide +kernel) hown hK hP 0 rfl rfl 0 (by decide) (hts (.fieldLink RX9 48 "UnibusMachineModel" "thrown" "I") (by decide +kernel)) (fun _ h9 => h9) rfl dX9_thrown_1 ?_
  have hP9 := hP.sub (ws' := []) [] rfl
  have hD9 := hD.sub (ws' := []) [] (by decide) rfl
  have hK9 := hK.sub (tys' := []) [] rfl
  exact W.iret (v := th) hx hb hr (fun t ht hW => ⟨⟨th, (), rfl, rfl, by rw [ht]; exact hP9, va_K.moved hW.alike hK9, hD9⟩, hS.F ht⟩) hS.2.2 dX9_thrown_4
set_option maxHeartbeats 4000000 in
set_option maxRecDepth 100000 in
theorem c_mfail (l : Launch) (dC : Nat → ClassId) (dI : Nat → Nat → Nat) (h0 : Nat) (th : Int32) (fs : List Value) (sz : Nat) : Met l yX9_fail wsX9_fail ({ frames := 0, cells := 0, slots := 0, locals := 0 } : Room) (va_Pc [.ref h0, .int 1] (fun U => U.heap.size = sz ∧ va_P (dC, dI) vwCl [(h0, .inr (8, .int th :: fs))] U.heap ∧ va_K (dC, dI) vwCl [] U ∧ va_D (fun _ => True) [(h0, .inr (8, .int th :: fs))])) (va_Qi (fun (r : Int32) (u : Unit) => r = 0) (fun (u : Unit) (t : State) => va_P (dC, dI) vwCl [(h0, .inr (8, .int 1 :: fs))] t.heap ∧ va_K (dC, dI) vwCl [] t ∧ va_D (va_A [(h0, .inr (8, .int th :: fs))] sz) [(h0, .inr (8, .int 1 :: fs))]) (va_A [(h0, .inr (8, .int th :: fs))] sz)) 0 0 (va_A [(h0, .inr (8, .int th :: fs))] sz) := by
  refine Met.ofW (cc := cX9_fail) (maxL := 2) (ret := (some .int)) (by decide) rfl ?_
  intro p e s m args below meth c s₁ B hml hv
  obtain ⟨rfl, hsz, hP, hK, hD0⟩ := hv
  have hx := B.exec
  have hb := B.bytes
  have hr := B.returns
  have hts := atoms_spec (ws := wsX9_fail) B.pre
  have hown : s.vm.findClass RX9 = some m.cls := findClass_of_methodNamed B.named
  have hlocks := B.notSynchronized
  subst hsz
  have hD := hD0.self (sz := s.heap.size)
  generalize hAe : va_A [(h0, .inr (8, .int th :: fs))] s.heap.size = A at hD ⊢
  have hA : ∀ q : Nat, s.heap.size ≤ q → A q := fun q h => by rw [← hAe]; exact Or.inr h
  have hS0 : ∀ G : Heap, s.heap = G → va_S A s.heap G [] := fun G h => by subst h; exact va_S.rf
  generalize hHe : s.heap = H at hP ⊢
  have hS := hS0 H hHe
  have hP : va_P (dC, dI) vwCl [(h0, .inr (8, .int th :: fs))] H := hP
  have hD : va_D A [(h0, .inr (8, .int th :: fs))] := hD
  have hK : va_K (dC, dI) vwCl [] s := hK
  have hl := lv_entry ([.ref h0, .int 1]) (n := 2) (Nat.le_of_ble_eq_true rfl)
  rw [lg_entry_eq]
  generalize (lg_sl ([.ref h0, .int 1]) ++ List.replicate (2 - (lg_sl ([.ref h0, .int 1])).length) Slot.unset).toArray = ls at hl ⊢
  have hl : lv_has ls 2 [(0, .ref h0), (1, .int 1)] := hl
  refine lv_aload_n hx hb dX9_fail_0 rfl (lv_at hl 0 rfl) ?_
  refine lv_iload_n hx hb dX9_fail_1 rfl (lv_at hl 1 rfl) ?_
  refine va_put (D := (dC, dI)) (ci := 8) (v := .int 1) (ty := .int) (C := RX9) (T := TX9) (N := 28) hx hb hts (by decide +kernel) tyX9 tyX9_ok nmX9 hown hK hP hD hS 0 rfl rfl 0 (by decide) (hts (.fieldLink RX9 48 "UnibusMachineModel" "thrown" "I") (by decide +kernel)) (fun _ h9 => h9) rfl (by decide +kernel) rfl rfl (Nat.le_of_ble_eq_true rfl) dX9_fail_2 (fun H locs hP hD hS => ?_)
  have hP : va_P (dC, dI) vwCl [(h0, .inr (8, .int 1 :: fs))] H := hP
  have hD : va_D A [(h0, .inr (8, .int 1 :: fs))] := hD
  refine lv_iconst (v := 0) hx hb dX9_fail_5 (by decide) ?_
  have hP9 := hP.sub (ws' := [(h0, .inr (8, .int 1 :: fs))]) [0] rfl
  have hD9 := hD.sub (ws' := [(h0, .inr (8, .int 1 :: fs))]) [0] (by decide) rfl
  have hK9 := hK.sub (tys' := []) [] rfl
  exact W.iret (v := 0) hx hb hr (fun t ht hW => ⟨⟨0, (), rfl, rfl, by rw [ht]; exact hP9, va_K.moved hW.alike hK9, hD9⟩, hS.F ht⟩) hS.2.2 dX9_fail_6
set_option maxHeartbeats 4000000 in
set_option maxRecDepth 100000 in
theorem c_mdeposit (l : Launch) (dC : Nat → ClassId) (dI : Nat → Nat → Nat) (h0 : Nat) (am : Nat) (ad : Nat) (ab : Nat) (ar : Nat) (az : Nat) (ae : Nat) (ao : Nat) (an : Nat) (au : Nat) (ap : Nat) (aw : Nat) (tm : ClassId) (p0 : Int32) (p1 : Int32) (sz : Nat) : Met l yX9_deposit wsX9_deposit ({ frames := 1, cells := 0, slots := 0, locals := 20 } : Room) (va_Pc [.ref h0, .int p0, .int p1] (fun U => U.heap.size = sz ∧ va_P (dC, dI) vwCl [(h0, .inr (8, [.int 0, .ref am, .ref ad, .ref ab, .int 0, .int 0, .ref ar, .int 0, .int 0, .int 2, .int 0, .int 0, .int 0, .ref az, .ref ae, .ref ao, .ref an, .ref au, .int 0, .int 0, .int 0, .ref ap, .ref aw, .int 0, .int 0, .int 0, .int 0, .int 0])), (am, .inl (tm, 512, .inl (fun _ => 0)))] U.heap ∧ va_K (dC, dI) vwCl [(tm, .int)] U ∧ va_D (fun _ => True) [(h0, .inr (8, [.int 0, .ref am, .ref ad, .ref ab, .int 0, .int 0, .ref ar, .int 0, .int 0, .int 2, .int 0, .int 0, .int 0, .ref az, .ref ae, .ref ao, .ref an, .ref au, .int 0, .int 0, .int 0, .ref ap, .ref aw, .int 0, .int 0, .int 0, .int 0, .int 0])), (am, .inl (tm, 512, .inl (fun _ => 0)))])) (va_Qv (fun (u : Int32) => (u = 0 ∧ ((0 ≤ p0.toInt ∧ p0.toInt < 1024 ∧ p0.toInt % 2 = 0) ∧ (0 ≤ p1.toInt ∧ p1.toInt ≤ 65535))) ∨ (u = 1 ∧ ¬ ((0 ≤ p0.toInt ∧ p0.toInt < 1024 ∧ p0.toInt % 2 = 0) ∧ (0 ≤ p1.toInt ∧ p1.toInt ≤ 65535)))) (fun (u : Int32) (t : State) => ∃ (fs : List Value), va_P (dC, dI) vwCl [(h0, .inr (8, .int u :: fs))] t.heap ∧ va_K (dC, dI) vwCl [] t ∧ va_D (va_A [(h0, .inr (8, [.int 0, .ref am, .ref ad, .ref ab, .int 0, .int 0, .ref ar, .int 0, .int 0, .int 2, .int 0, .int 0, .int 0, .ref az, .ref ae, .ref ao, .ref an, .ref au, .int 0, .int 0, .int 0, .ref ap, .ref aw, .int 0, .int 0, .int 0, .int 0, .int 0])), (am, .inl (tm, 512, .inl (fun _ => 0)))] sz) [(h0, .inr (8, .int u :: fs))]) (va_A [(h0, .inr (8, [.int 0, .ref am, .ref ad, .ref ab, .int 0, .int 0, .ref ar, .int 0, .int 0, .int 2, .int 0, .int 0, .int 0, .ref az, .ref ae, .ref ao, .ref an, .ref au, .int 0, .int 0, .int 0, .ref ap, .ref aw, .int 0, .int 0, .int 0, .int 0, .int 0])), (am, .inl (tm, 512, .inl (fun _ => 0)))] sz)) 0 0 (va_A [(h0, .inr (8, [.int 0, .ref am, .ref ad, .ref ab, .int 0, .int 0, .ref ar, .int 0, .int 0, .int 2, .int 0, .int 0, .int 0, .ref az, .ref ae, .ref ao, .ref an, .ref au, .int 0, .int 0, .int 0, .ref ap, .ref aw, .int 0, .int 0, .int 0, .int 0, .int 0])), (am, .inl (tm, 512, .inl (fun _ => 0)))] sz) := by
  refine Met.ofW (cc := cX9_deposit) (maxL := 3) (ret := none) (by decide) rfl ?_
  intro p e s m args below meth c s₁ B hml hv
  obtain ⟨rfl, hsz, hP, hK, hD0⟩ := hv
  have hx := B.exec
  have hb := B.bytes
  have hr := B.returns
  have hts := atoms_spec (ws := wsX9_deposit) B.pre
  have hown : s.vm.findClass RX9 = some m.cls := findClass_of_methodNamed B.named
  have hlocks := B.notSynchronized
  subst hsz
  have hD := hD0.self (sz := s.heap.size)
  generalize hAe : va_A [(h0, .inr (8, [.int 0, .ref am, .ref ad, .ref ab, .int 0, .int 0, .ref ar, .int 0, .int 0, .int 2, .int 0, .int 0, .int 0, .ref az, .ref ae, .ref ao, .ref an, .ref au, .int 0, .int 0, .int 0, .ref ap, .ref aw, .int 0, .int 0, .int 0, .int 0, .int 0])), (am, .inl (tm, 512, .inl (fun _ => 0)))] s.heap.size = A at hD ⊢
  have hA : ∀ q : Nat, s.heap.size ≤ q → A q := fun q h => by rw [← hAe]; exact Or.inr h
  have hS0 : ∀ G : Heap, s.heap = G → va_S A s.heap G [] := fun G h => by subst h; exact va_S.rf
  generalize hHe : s.heap = H at hP ⊢
  have hS := hS0 H hHe
  have hP : va_P (dC, dI) vwCl [(h0, .inr (8, [.int 0, .ref am, .ref ad, .ref ab, .int 0, .int 0, .ref ar, .int 0, .int 0, .int 2, .int 0, .int 0, .int 0, .ref az, .ref ae, .ref ao, .ref an, .ref au, .int 0, .int 0, .int 0, .ref ap, .ref aw, .int 0, .int 0, .int 0, .int 0, .int 0])), (am, .inl (tm, 512, .inl (fun _ => 0)))] H := hP
  have hD : va_D A [(h0, .inr (8, [.int 0, .ref am, .ref ad, .ref ab, .int 0, .int 0, .ref ar, .int 0, .int 0, .int 2, .int 0, .int 0, .int 0, .ref az, .ref ae, .ref ao, .ref an, .ref au, .int 0, .int 0, .int 0, .ref ap, .ref aw, .int 0, .int 0, .int 0, .int 0, .int 0])), (am, .inl (tm, 512, .inl (fun _ => 0)))] := hD
  have hK : va_K (dC, dI) vwCl [(tm, .int)] s := hK
  have hl := lv_entry ([.ref h0, .int p0, .int p1]) (n := 3) (Nat.le_of_ble_eq_true rfl)
  rw [lg_entry_eq]
  generalize (lg_sl ([.ref h0, .int p0, .int p1]) ++ List.replicate (3 - (lg_sl ([.ref h0, .int p0, .int p1])).length) Slot.unset).toArray = ls at hl ⊢
  have hl : lv_has ls 3 [(0, .ref h0), (1, .int p0), (2, .int p1)] := hl
  refine lv_aload_n hx hb dX9_deposit_0 rfl (lv_at hl 0 rfl) ?_
  refine lv_iload_n hx hb dX9_deposit_1 rfl (lv_at hl 1 rfl) ?_
  have hPc := hP.sub (ws' := []) [] rfl
  have hDc := hD.sub (ws' := []) [] (by decide) rfl
  have hKc := hK.sub (tys' := []) [] rfl
  have hFc := va_free (wc := []) hD hS hA [] rfl
  refine va_calli (va_runS (As := [.int p0]) (rest := [.ref h0]) ⟨hx, hb, hml, hown, hts⟩ (c_mcell l dC dI p0 H.size) (va_cwS 1 hts gX9_deposit_X9_cell rfl rfl rfl (by decide +kernel) ⟨Nat.le_of_ble_eq_true rfl, Nat.le_of_ble_eq_true rfl⟩) ⟨fun a U g mk q => by obtain ⟨q0, q1, qP, qK, qD⟩ := q; exact ⟨q0, q1, qP, va_K.moved (u := U) (U := U.calling g mk a) (Vm.Alike.refl U.vm) qK, qD⟩, fun U hU hW => ⟨rfl, by rw [hU], by rw [hU]; exact hPc, va_K.moved hW.alike hKc, hDc.weaken (fun _ _ _ _ => trivial)⟩⟩ rfl rfl hl.1 rfl (lv_room (Nat.le_of_ble_eq_true rfl)) dX9_deposit_2 ⟨Nat.le_of_ble_eq_true rfl, Nat.le_of_ble_eq_true rfl⟩) hS (fun q _ h => hFc q h) hFc (fun r1 u2 t H1 locs ht hvm hw hB hz1 hk1 hS => ?_)
  obtain ⟨hP1, hK1, hD1⟩ := hB
  rw [ht] at hP1
  have hK1 := va_K.moved hvm.symm hK1
  try dsimp only at hw
  obtain ⟨hP, hD⟩ := va_join (wr := [(h0, .inr (8, [.int 0, .ref am, .ref ad, .ref ab, .int 0, .int 0, .ref ar, .int 0, .int 0, .int 2, .int 0, .int 0, .int 0, .ref az, .ref ae, .ref ao, .ref an, .ref au, .int 0, .int 0, .int 0, .ref ap, .ref aw, .int 0, .int 0, .int 0, .int 0, .int 0])), (am, .inl (tm, 512, .inl (fun _ => 0)))]) (w1 := []) hP hD [] [0, 1] rfl rfl (by decide) (by decide) hk1 hFc hP1 hD1
  have hK := (hK.sub (tys' := [(tm, .int)]) [0] rfl).app hK1
  generalize H1 = H at hP hS ⊢
  have hP : va_P (dC, dI) vwCl [(h0, .inr (8, [.int 0, .ref am, .ref ad, .ref ab, .int 0, .int 0, .ref ar, .int 0, .int 0, .int 2, .int 0, .int 0, .int 0, .ref az, .ref ae, .ref ao, .ref an, .ref au, .int 0, .int 0, .int 0, .ref ap, .ref aw, .int 0, .int 0, .int 0, .int 0, .int 0])), (am, .inl (tm, 512, .inl (fun _ => 0)))] H := hP
  have hD : va_D A [(h0, .inr (8, [.int 0, .ref am, .ref ad, .ref ab, .int 0, .int 0, .ref ar, .int 0, .int 0, .int 2, .int 0, .int 0, .int 0, .ref az, .ref ae, .ref ao, .ref an, .ref au, .int 0, .int 0, .int 0, .ref ap, .ref aw, .int 0, .int 0, .int 0, .int 0, .int 0])), (am, .inl (tm, 512, .inl (fun _ => 0)))] := hD
  have hK : va_K (dC, dI) vwCl [(tm, .int)] s := hK
  rcases hw with ⟨rfl, _, _, _⟩ | ⟨rfl, _⟩
  · skip
    refine lv_if_eq (tgt := 19) hx hb dX9_deposit_5 (by decide) (fun c3 => ?_) (fun c3 => ?_)
    · exact absurd c3 (by decide)
    · skip
      refine lv_iload_n hx hb dX9_deposit_8 rfl (lv_at hl 2 rfl) ?_
      have hPc := hP.sub (ws' := []) [] rfl
      have hDc := hD.sub (ws' := []) [] (by decide) rfl
      have hKc := hK.sub (tys' := []) [] rfl
      have hFc := va_free (wc := []) hD hS hA [] rfl
      refine va_calli (va_runS (As := [.int p1]) (rest := [.ref h0]) ⟨hx, hb, hml, hown, hts⟩ (c_misWord l dC dI p1 H.size) (va_cwS 1 hts gX9_deposit_X9_isWord rfl rfl rfl (by decide +kernel) ⟨Nat.le_of_ble_eq_true rfl, Nat.le_of_ble_eq_true rfl⟩) ⟨fun a U g mk q => by obtain ⟨q0, q1, qP, qK, qD⟩ := q; exact ⟨q0, q1, qP, va_K.moved (u := U) (U := U.calling g mk a) (Vm.Alike.refl U.vm) qK, qD⟩, fun U hU hW => ⟨rfl, by rw [hU], by rw [hU]; exact hPc, va_K.moved hW.alike hKc, hDc.weaken (fun _ _ _ _ => trivial)⟩⟩ rfl rfl hl.1 rfl (lv_room (Nat.le_of_ble_eq_true rfl)) dX9_deposit_9 ⟨Nat.le_of_ble_eq_true rfl, Nat.le_of_ble_eq_true rfl⟩) hS (fun q _ h => hFc q h) hFc (fun r4 u5 t H1 locs ht hvm hw hB hz1 hk1 hS => ?_)
      obtain ⟨hP1, hK1, hD1⟩ := hB
      rw [ht] at hP1
      have hK1 := va_K.moved hvm.symm hK1
      try dsimp only at hw
      obtain ⟨hP, hD⟩ := va_join (wr := [(h0, .inr (8, [.int 0, .ref am, .ref ad, .ref ab, .int 0, .int 0, .ref ar, .int 0, .int 0, .int 2, .int 0, .int 0, .int 0, .ref az, .ref ae, .ref ao, .ref an, .ref au, .int 0, .int 0, .int 0, .ref ap, .ref aw, .int 0, .int 0, .int 0, .int 0, .int 0])), (am, .inl (tm, 512, .inl (fun _ => 0)))]) (w1 := []) hP hD [] [0, 1] rfl rfl (by decide) (by decide) hk1 hFc hP1 hD1
      have hK := (hK.sub (tys' := [(tm, .int)]) [0] rfl).app hK1
      generalize H1 = H at hP hS ⊢
      have hP : va_P (dC, dI) vwCl [(h0, .inr (8, [.int 0, .ref am, .ref ad, .ref ab, .int 0, .int 0, .ref ar, .int 0, .int 0, .int 2, .int 0, .int 0, .int 0, .ref az, .ref ae, .ref ao, .ref an, .ref au, .int 0, .int 0, .int 0, .ref ap, .ref aw, .int 0, .int 0, .int 0, .int 0, .int 0])), (am, .inl (tm, 512, .inl (fun _ => 0)))] H := hP
      have hD : va_D A [(h0, .inr (8, [.int 0, .ref am, .ref ad, .ref ab, .int 0, .int 0, .ref ar, .int 0, .int 0, .int 2, .int 0, .int 0, .int 0, .ref az, .ref ae, .ref ao, .ref an, .ref au, .int 0, .int 0, .int 0, .ref ap, .ref aw, .int 0, .int 0, .int 0, .int 0, .int 0])), (am, .inl (tm, 512, .inl (fun _ => 0)))] := hD
      have hK : va_K (dC, dI) vwCl [(tm, .int)] s := hK
      rcases hw with ⟨rfl, _, _⟩ | ⟨rfl, _⟩
      · skip
        refine lv_if_eq (tgt := 19) hx hb dX9_deposit_12 (by decide) (fun c6 => ?_) (fun c6 => ?_)
        · exact absurd c6 (by decide)
        · skip
          refine lv_iconst (v := 0) hx hb dX9_deposit_15 (by decide) ?_
          refine lv_goto (tgt := 20) hx hb dX9_deposit_16 (by decide) ?_
          refine va_put (D := (dC, dI)) (ci := 8) (v := .int 0) (ty := .int) (C := RX9) (T := TX9) (N := 28) hx hb hts (by decide +kernel) tyX9 tyX9_ok nmX9 hown hK hP hD hS 0 rfl rfl 0 (by decide) (hts (.fieldLink RX9 48 "UnibusMachineModel" "thrown" "I") (by decide +kernel)) (fun _ h9 => h9) rfl (by decide +kernel) rfl rfl (Nat.le_of_ble_eq_true rfl) dX9_deposit_20 (fun H locs hP hD hS => ?_)
          have hP : va_P (dC, dI) vwCl [(h0, .inr (8, [.int 0, .ref am, .ref ad, .ref ab, .int 0, .int 0, .ref ar, .int 0, .int 0, .int 2, .int 0, .int 0, .int 0, .ref az, .ref ae, .ref ao, .ref an, .ref au, .int 0, .int 0, .int 0, .ref ap, .ref aw, .int 0, .int 0, .int 0, .int 0, .int 0])), (am, .inl (tm, 512, .inl (fun _ => 0)))] H := hP
          have hD : va_D A [(h0, .inr (8, [.int 0, .ref am, .ref ad, .ref ab, .int 0, .int 0, .ref ar, .int 0, .int 0, .int 2, .int 0, .int 0, .int 0, .ref az, .ref ae, .ref ao, .ref an, .ref au, .int 0, .int 0, .int 0, .ref ap, .ref aw, .int 0, .int 0, .int 0, .int 0, .int 0])), (am, .inl (tm, 512, .inl (fun _ => 0)))] := hD
          refine lv_aload_n hx hb dX9_deposit_23 rfl (lv_at hl 0 rfl) ?_
          refine va_get (D := (dC, dI)) (ci := 8) (v := .int 0) (C := RX9) (T := TX9) (N := 28) hx hb hts (by decide +kernel) hown hK hP 0 rfl rfl 0 (by decide) (hts (.fieldLink RX9 48 "UnibusMachineModel" "thrown" "I") (by decide +kernel)) (fun _ h9 => h9) rfl dX9_deposit_24 ?_
          refine lv_if_ne (tgt := 39) hx hb dX9_deposit_27 (by decide) (fun c7 => ?_) (fun c7 => ?_)
          · exact absurd c7 (by decide)
          · skip
            refine lv_aload_n hx hb dX9_deposit_30 rfl (lv_at hl 0 rfl) ?_
            refine va_get (D := (dC, dI)) (ci := 8) (v := .ref am) (C := RX9) (T := TX9) (N := 28) hx hb hts (by decide +kernel) hown hK hP 0 rfl rfl 1 (by decide) (hts (.fieldLink RX9 7 "UnibusMachineModel" "memory" "[I") (by decide +kernel)) (fun _ h9 => h9) rfl dX9_deposit_31 ?_
            refine lv_iload_n hx hb dX9_deposit_34 rfl (lv_at hl 1 rfl) ?_
            refine lv_iconst (v := 2) hx hb dX9_deposit_35 (by decide) ?_
            refine lv_idiv hx hb dX9_deposit_36 (by decide) ?_
            have f1 := fz_div2 p0 (by omega)
            refine lv_iload_n hx hb dX9_deposit_37 rfl (lv_at hl 2 rfl) ?_
            refine va_iast (D := (dC, dI)) hx hb hK hP hD hS 1 0 rfl rfl (vp_in_iff.mpr (by constructor <;> omega)) dX9_deposit_38 (fun H locs hP hD hS => ?_)
            have hP : va_P (dC, dI) vwCl [(h0, .inr (8, [.int 0, .ref am, .ref ad, .ref ab, .int 0, .int 0, .ref ar, .int 0, .int 0, .int 2, .int 0, .int 0, .int 0, .ref az, .ref ae, .ref ao, .ref an, .ref au, .int 0, .int 0, .int 0, .ref ap, .ref aw, .int 0, .int 0, .int 0, .int 0, .int 0])), (am, .inl (tm, 512, .inl (upd (fun _ => 0) (p0 / 2 : Int32).toNatClampNeg p1)))] H := hP
            have hD : va_D A [(h0, .inr (8, [.int 0, .ref am, .ref ad, .ref ab, .int 0, .int 0, .ref ar, .int 0, .int 0, .int 2, .int 0, .int 0, .int 0, .ref az, .ref ae, .ref ao, .ref an, .ref au, .int 0, .int 0, .int 0, .ref ap, .ref aw, .int 0, .int 0, .int 0, .int 0, .int 0])), (am, .inl (tm, 512, .inl (upd (fun _ => 0) (p0 / 2 : Int32).toNatClampNeg p1)))] := hD
            have hP9 := hP.sub (ws' := [(h0, .inr (8, [.int 0, .ref am, .ref ad, .ref ab, .int 0, .int 0, .ref ar, .int 0, .int 0, .int 2, .int 0, .int 0, .int 0, .ref az, .ref ae, .ref ao, .ref an, .ref au, .int 0, .int 0, .int 0, .ref ap, .ref aw, .int 0, .int 0, .int 0, .int 0, .int 0]))]) [0] rfl
            have hD9 := hD.sub (ws' := [(h0, .inr (8, [.int 0, .ref am, .ref ad, .ref ab, .int 0, .int 0, .ref ar, .int 0, .int 0, .int 2, .int 0, .int 0, .int 0, .ref az, .ref ae, .ref ao, .ref an, .ref au, .int 0, .int 0, .int 0, .ref ap, .ref aw, .int 0, .int 0, .int 0, .int 0, .int 0]))]) [0] (by decide) rfl
            have hK9 := hK.sub (tys' := []) [] rfl
            exact W.vret hx hb hr (fun t ht hW => ⟨⟨0, rfl, (by first | (exact Or.inl ⟨rfl, by omega⟩) | (exact Or.inr ⟨rfl, by omega⟩)), [.ref am, .ref ad, .ref ab, .int 0, .int 0, .ref ar, .int 0, .int 0, .int 2, .int 0, .int 0, .int 0, .ref az, .ref ae, .ref ao, .ref an, .ref au, .int 0, .int 0, .int 0, .ref ap, .ref aw, .int 0, .int 0, .int 0, .int 0, .int 0], by rw [ht]; exact hP9, va_K.moved hW.alike hK9, hD9⟩, hS.F ht⟩) hS.2.2 dX9_deposit_39
      · skip
        refine lv_if_eq (tgt := 19) hx hb dX9_deposit_12 (by decide) (fun c8 => ?_) (fun c8 => ?_)
        · skip
          refine lv_iconst (v := 1) hx hb dX9_deposit_19 (by decide) ?_
          refine va_put (D := (dC, dI)) (ci := 8) (v := .int 1) (ty := .int) (C := RX9) (T := TX9) (N := 28) hx hb hts (by decide +kernel) tyX9 tyX9_ok nmX9 hown hK hP hD hS 0 rfl rfl 0 (by decide) (hts (.fieldLink RX9 48 "UnibusMachineModel" "thrown" "I") (by decide +kernel)) (fun _ h9 => h9) rfl (by decide +kernel) rfl rfl (Nat.le_of_ble_eq_true rfl) dX9_deposit_20 (fun H locs hP hD hS => ?_)
          have hP : va_P (dC, dI) vwCl [(h0, .inr (8, [.int 1, .ref am, .ref ad, .ref ab, .int 0, .int 0, .ref ar, .int 0, .int 0, .int 2, .int 0, .int 0, .int 0, .ref az, .ref ae, .ref ao, .ref an, .ref au, .int 0, .int 0, .int 0, .ref ap, .ref aw, .int 0, .int 0, .int 0, .int 0, .int 0])), (am, .inl (tm, 512, .inl (fun _ => 0)))] H := hP
          have hD : va_D A [(h0, .inr (8, [.int 1, .ref am, .ref ad, .ref ab, .int 0, .int 0, .ref ar, .int 0, .int 0, .int 2, .int 0, .int 0, .int 0, .ref az, .ref ae, .ref ao, .ref an, .ref au, .int 0, .int 0, .int 0, .ref ap, .ref aw, .int 0, .int 0, .int 0, .int 0, .int 0])), (am, .inl (tm, 512, .inl (fun _ => 0)))] := hD
          refine lv_aload_n hx hb dX9_deposit_23 rfl (lv_at hl 0 rfl) ?_
          refine va_get (D := (dC, dI)) (ci := 8) (v := .int 1) (C := RX9) (T := TX9) (N := 28) hx hb hts (by decide +kernel) hown hK hP 0 rfl rfl 0 (by decide) (hts (.fieldLink RX9 48 "UnibusMachineModel" "thrown" "I") (by decide +kernel)) (fun _ h9 => h9) rfl dX9_deposit_24 ?_
          refine lv_if_ne (tgt := 39) hx hb dX9_deposit_27 (by decide) (fun c9 => ?_) (fun c9 => ?_)
          · skip
            have hP9 := hP.sub (ws' := [(h0, .inr (8, [.int 1, .ref am, .ref ad, .ref ab, .int 0, .int 0, .ref ar, .int 0, .int 0, .int 2, .int 0, .int 0, .int 0, .ref az, .ref ae, .ref ao, .ref an, .ref au, .int 0, .int 0, .int 0, .ref ap, .ref aw, .int 0, .int 0, .int 0, .int 0, .int 0]))]) [0] rfl
            have hD9 := hD.sub (ws' := [(h0, .inr (8, [.int 1, .ref am, .ref ad, .ref ab, .int 0, .int 0, .ref ar, .int 0, .int 0, .int 2, .int 0, .int 0, .int 0, .ref az, .ref ae, .ref ao, .ref an, .ref au, .int 0, .int 0, .int 0, .ref ap, .ref aw, .int 0, .int 0, .int 0, .int 0, .int 0]))]) [0] (by decide) rfl
            have hK9 := hK.sub (tys' := []) [] rfl
            exact W.vret hx hb hr (fun t ht hW => ⟨⟨1, rfl, (by first | (exact Or.inl ⟨rfl, by omega⟩) | (exact Or.inr ⟨rfl, by omega⟩)), [.ref am, .ref ad, .ref ab, .int 0, .int 0, .ref ar, .int 0, .int 0, .int 2, .int 0, .int 0, .int 0, .ref az, .ref ae, .ref ao, .ref an, .ref au, .int 0, .int 0, .int 0, .ref ap, .ref aw, .int 0, .int 0, .int 0, .int 0, .int 0], by rw [ht]; exact hP9, va_K.moved hW.alike hK9, hD9⟩, hS.F ht⟩) hS.2.2 dX9_deposit_39
          · exact absurd c9 (by decide)
        · exact absurd c8 (by decide)
  · skip
    refine lv_if_eq (tgt := 19) hx hb dX9_deposit_5 (by decide) (fun c10 => ?_) (fun c10 => ?_)
    · skip
      refine lv_iconst (v := 1) hx hb dX9_deposit_19 (by decide) ?_
      refine va_put (D := (dC, dI)) (ci := 8) (v := .int 1) (ty := .int) (C := RX9) (T := TX9) (N := 28) hx hb hts (by decide +kernel) tyX9 tyX9_ok nmX9 hown hK hP hD hS 0 rfl rfl 0 (by decide) (hts (.fieldLink RX9 48 "UnibusMachineModel" "thrown" "I") (by decide +kernel)) (fun _ h9 => h9) rfl (by decide +kernel) rfl rfl (Nat.le_of_ble_eq_true rfl) dX9_deposit_20 (fun H locs hP hD hS => ?_)
      have hP : va_P (dC, dI) vwCl [(h0, .inr (8, [.int 1, .ref am, .ref ad, .ref ab, .int 0, .int 0, .ref ar, .int 0, .int 0, .int 2, .int 0, .int 0, .int 0, .ref az, .ref ae, .ref ao, .ref an, .ref au, .int 0, .int 0, .int 0, .ref ap, .ref aw, .int 0, .int 0, .int 0, .int 0, .int 0])), (am, .inl (tm, 512, .inl (fun _ => 0)))] H := hP
      have hD : va_D A [(h0, .inr (8, [.int 1, .ref am, .ref ad, .ref ab, .int 0, .int 0, .ref ar, .int 0, .int 0, .int 2, .int 0, .int 0, .int 0, .ref az, .ref ae, .ref ao, .ref an, .ref au, .int 0, .int 0, .int 0, .ref ap, .ref aw, .int 0, .int 0, .int 0, .int 0, .int 0])), (am, .inl (tm, 512, .inl (fun _ => 0)))] := hD
      refine lv_aload_n hx hb dX9_deposit_23 rfl (lv_at hl 0 rfl) ?_
      refine va_get (D := (dC, dI)) (ci := 8) (v := .int 1) (C := RX9) (T := TX9) (N := 28) hx hb hts (by decide +kernel) hown hK hP 0 rfl rfl 0 (by decide) (hts (.fieldLink RX9 48 "UnibusMachineModel" "thrown" "I") (by decide +kernel)) (fun _ h9 => h9) rfl dX9_deposit_24 ?_
      refine lv_if_ne (tgt := 39) hx hb dX9_deposit_27 (by decide) (fun c11 => ?_) (fun c11 => ?_)
      · skip
        have hP9 := hP.sub (ws' := [(h0, .inr (8, [.int 1, .ref am, .ref ad, .ref ab, .int 0, .int 0, .ref ar, .int 0, .int 0, .int 2, .int 0, .int 0, .int 0, .ref az, .ref ae, .ref ao, .ref an, .ref au, .int 0, .int 0, .int 0, .ref ap, .ref aw, .int 0, .int 0, .int 0, .int 0, .int 0]))]) [0] rfl
        have hD9 := hD.sub (ws' := [(h0, .inr (8, [.int 1, .ref am, .ref ad, .ref ab, .int 0, .int 0, .ref ar, .int 0, .int 0, .int 2, .int 0, .int 0, .int 0, .ref az, .ref ae, .ref ao, .ref an, .ref au, .int 0, .int 0, .int 0, .ref ap, .ref aw, .int 0, .int 0, .int 0, .int 0, .int 0]))]) [0] (by decide) rfl
        have hK9 := hK.sub (tys' := []) [] rfl
        exact W.vret hx hb hr (fun t ht hW => ⟨⟨1, rfl, (by first | (exact Or.inl ⟨rfl, by omega⟩) | (exact Or.inr ⟨rfl, by omega⟩)), [.ref am, .ref ad, .ref ab, .int 0, .int 0, .ref ar, .int 0, .int 0, .int 2, .int 0, .int 0, .int 0, .ref az, .ref ae, .ref ao, .ref an, .ref au, .int 0, .int 0, .int 0, .ref ap, .ref aw, .int 0, .int 0, .int 0, .int 0, .int 0], by rw [ht]; exact hP9, va_K.moved hW.alike hK9, hD9⟩, hS.F ht⟩) hS.2.2 dX9_deposit_39
      · exact absurd c11 (by decide)
    · exact absurd c10 (by decide)
set_option maxHeartbeats 4000000 in
set_option maxRecDepth 100000 in
theorem c_mexamine (l : Launch) (dC : Nat → ClassId) (dI : Nat → Nat → Nat) (h0 : Nat) (am : Nat) (ad : Nat) (ab : Nat) (ar : Nat) (az : Nat) (ae : Nat) (ao : Nat) (an : Nat) (au : Nat) (ap : Nat) (aw : Nat) (tm : ClassId) (p0 : Int32) (sz : Nat) : Met l yX9_examine wsX9_examine ({ frames := 1, cells := 0, slots := 0, locals := 21 } : Room) (va_Pc [.ref h0, .int p0] (fun U => U.heap.size = sz ∧ va_P (dC, dI) vwCl [(h0, .inr (8, [.int 0, .ref am, .ref ad, .ref ab, .int 0, .int 0, .ref ar, .int 0, .int 0, .int 2, .int 0, .int 0, .int 0, .ref az, .ref ae, .ref ao, .ref an, .ref au, .int 0, .int 0, .int 0, .ref ap, .ref aw, .int 0, .int 0, .int 0, .int 0, .int 0])), (am, .inl (tm, 512, .inl (fun _ => 0)))] U.heap ∧ va_K (dC, dI) vwCl [(tm, .int)] U ∧ va_D (fun _ => True) [(h0, .inr (8, [.int 0, .ref am, .ref ad, .ref ab, .int 0, .int 0, .ref ar, .int 0, .int 0, .int 2, .int 0, .int 0, .int 0, .ref az, .ref ae, .ref ao, .ref an, .ref au, .int 0, .int 0, .int 0, .ref ap, .ref aw, .int 0, .int 0, .int 0, .int 0, .int 0])), (am, .inl (tm, 512, .inl (fun _ => 0)))])) (va_Qi (fun (r : Int32) (u : Int32) => r = 0 ∧ ((u = 0 ∧ (0 ≤ p0.toInt ∧ p0.toInt < 1024 ∧ p0.toInt % 2 = 0)) ∨ (u = 1 ∧ ¬ (0 ≤ p0.toInt ∧ p0.toInt < 1024 ∧ p0.toInt % 2 = 0)))) (fun (u : Int32) (t : State) => ∃ (fs : List Value), va_P (dC, dI) vwCl [(h0, .inr (8, .int u :: fs))] t.heap ∧ va_K (dC, dI) vwCl [] t ∧ va_D (va_A [(h0, .inr (8, [.int 0, .ref am, .ref ad, .ref ab, .int 0, .int 0, .ref ar, .int 0, .int 0, .int 2, .int 0, .int 0, .int 0, .ref az, .ref ae, .ref ao, .ref an, .ref au, .int 0, .int 0, .int 0, .ref ap, .ref aw, .int 0, .int 0, .int 0, .int 0, .int 0])), (am, .inl (tm, 512, .inl (fun _ => 0)))] sz) [(h0, .inr (8, .int u :: fs))]) (va_A [(h0, .inr (8, [.int 0, .ref am, .ref ad, .ref ab, .int 0, .int 0, .ref ar, .int 0, .int 0, .int 2, .int 0, .int 0, .int 0, .ref az, .ref ae, .ref ao, .ref an, .ref au, .int 0, .int 0, .int 0, .ref ap, .ref aw, .int 0, .int 0, .int 0, .int 0, .int 0])), (am, .inl (tm, 512, .inl (fun _ => 0)))] sz)) 0 0 (va_A [(h0, .inr (8, [.int 0, .ref am, .ref ad, .ref ab, .int 0, .int 0, .ref ar, .int 0, .int 0, .int 2, .int 0, .int 0, .int 0, .ref az, .ref ae, .ref ao, .ref an, .ref au, .int 0, .int 0, .int 0, .ref ap, .ref aw, .int 0, .int 0, .int 0, .int 0, .int 0])), (am, .inl (tm, 512, .inl (fun _ => 0)))] sz) := by
  refine Met.ofW (cc := cX9_examine) (maxL := 2) (ret := (some .int)) (by decide) rfl ?_
  intro p e s m args below meth c s₁ B hml hv
  obtain ⟨rfl, hsz, hP, hK, hD0⟩ := hv
  have hx := B.exec
  have hb := B.bytes
  have hr := B.returns
  have hts := atoms_spec (ws := wsX9_examine) B.pre
  have hown : s.vm.findClass RX9 = some m.cls := findClass_of_methodNamed B.named
  have hlocks := B.notSynchronized
  subst hsz
  have hD := hD0.self (sz := s.heap.size)
  generalize hAe : va_A [(h0, .inr (8, [.int 0, .ref am, .ref ad, .ref ab, .int 0, .int 0, .ref ar, .int 0, .int 0, .int 2, .int 0, .int 0, .int 0, .ref az, .ref ae, .ref ao, .ref an, .ref au, .int 0, .int 0, .int 0, .ref ap, .ref aw, .int 0, .int 0, .int 0, .int 0, .int 0])), (am, .inl (tm, 512, .inl (fun _ => 0)))] s.heap.size = A at hD ⊢
  have hA : ∀ q : Nat, s.heap.size ≤ q → A q := fun q h => by rw [← hAe]; exact Or.inr h
  have hS0 : ∀ G : Heap, s.heap = G → va_S A s.heap G [] := fun G h => by subst h; exact va_S.rf
  generalize hHe : s.heap = H at hP ⊢
  have hS := hS0 H hHe
  have hP : va_P (dC, dI) vwCl [(h0, .inr (8, [.int 0, .ref am, .ref ad, .ref ab, .int 0, .int 0, .ref ar, .int 0, .int 0, .int 2, .int 0, .int 0, .int 0, .ref az, .ref ae, .ref ao, .ref an, .ref au, .int 0, .int 0, .int 0, .ref ap, .ref aw, .int 0, .int 0, .int 0, .int 0, .int 0])), (am, .inl (tm, 512, .inl (fun _ => 0)))] H := hP
  have hD : va_D A [(h0, .inr (8, [.int 0, .ref am, .ref ad, .ref ab, .int 0, .int 0, .ref ar, .int 0, .int 0, .int 2, .int 0, .int 0, .int 0, .ref az, .ref ae, .ref ao, .ref an, .ref au, .int 0, .int 0, .int 0, .ref ap, .ref aw, .int 0, .int 0, .int 0, .int 0, .int 0])), (am, .inl (tm, 512, .inl (fun _ => 0)))] := hD
  have hK : va_K (dC, dI) vwCl [(tm, .int)] s := hK
  have hl := lv_entry ([.ref h0, .int p0]) (n := 2) (Nat.le_of_ble_eq_true rfl)
  rw [lg_entry_eq]
  generalize (lg_sl ([.ref h0, .int p0]) ++ List.replicate (2 - (lg_sl ([.ref h0, .int p0])).length) Slot.unset).toArray = ls at hl ⊢
  have hl : lv_has ls 2 [(0, .ref h0), (1, .int p0)] := hl
  refine lv_aload_n hx hb dX9_examine_0 rfl (lv_at hl 0 rfl) ?_
  refine lv_iconst (v := 0) hx hb dX9_examine_1 (by decide) ?_
  refine va_put (D := (dC, dI)) (ci := 8) (v := .int 0) (ty := .int) (C := RX9) (T := TX9) (N := 28) hx hb hts (by decide +kernel) tyX9 tyX9_ok nmX9 hown hK hP hD hS 0 rfl rfl 0 (by decide) (hts (.fieldLink RX9 48 "UnibusMachineModel" "thrown" "I") (by decide +kernel)) (fun _ h9 => h9) rfl (by decide +kernel) rfl rfl (Nat.le_of_ble_eq_true rfl) dX9_examine_2 (fun H locs hP hD hS => ?_)
  have hP : va_P (dC, dI) vwCl [(h0, .inr (8, [.int 0, .ref am, .ref ad, .ref ab, .int 0, .int 0, .ref ar, .int 0, .int 0, .int 2, .int 0, .int 0, .int 0, .ref az, .ref ae, .ref ao, .ref an, .ref au, .int 0, .int 0, .int 0, .ref ap, .ref aw, .int 0, .int 0, .int 0, .int 0, .int 0])), (am, .inl (tm, 512, .inl (fun _ => 0)))] H := hP
  have hD : va_D A [(h0, .inr (8, [.int 0, .ref am, .ref ad, .ref ab, .int 0, .int 0, .ref ar, .int 0, .int 0, .int 2, .int 0, .int 0, .int 0, .ref az, .ref ae, .ref ao, .ref an, .ref au, .int 0, .int 0, .int 0, .ref ap, .ref aw, .int 0, .int 0, .int 0, .int 0, .int 0])), (am, .inl (tm, 512, .inl (fun _ => 0)))] := hD
  refine lv_iload_n hx hb dX9_examine_5 rfl (lv_at hl 1 rfl) ?_
  have hPc := hP.sub (ws' := []) [] rfl
  have hDc := hD.sub (ws' := []) [] (by decide) rfl
  have hKc := hK.sub (tys' := []) [] rfl
  have hFc := va_free (wc := []) hD hS hA [] rfl
  refine va_calli (va_runS (As := [.int p0]) (rest := []) ⟨hx, hb, hml, hown, hts⟩ (c_mcell l dC dI p0 H.size) (va_cwS 1 hts gX9_examine_X9_cell rfl rfl rfl (by decide +kernel) ⟨Nat.le_of_ble_eq_true rfl, Nat.le_of_ble_eq_true rfl⟩) ⟨fun a U g mk q => by obtain ⟨q0, q1, qP, qK, qD⟩ := q; exact ⟨q0, q1, qP, va_K.moved (u := U) (U := U.calling g mk a) (Vm.Alike.refl U.vm) qK, qD⟩, fun U hU hW => ⟨rfl, by rw [hU], by rw [hU]; exact hPc, va_K.moved hW.alike hKc, hDc.weaken (fun _ _ _ _ => trivial)⟩⟩ rfl rfl hl.1 rfl (lv_room (Nat.le_of_ble_eq_true rfl)) dX9_examine_6 ⟨Nat.le_of_ble_eq_true rfl, Nat.le_of_ble_eq_true rfl⟩) hS (fun q _ h => hFc q h) hFc (fun r1 u2 t H1 locs ht hvm hw hB hz1 hk1 hS => ?_)
  obtain ⟨hP1, hK1, hD1⟩ := hB
  rw [ht] at hP1
  have hK1 := va_K.moved hvm.symm hK1
  try dsimp only at hw
  obtain ⟨hP, hD⟩ := va_join (wr := [(h0, .inr (8, [.int 0, .ref am, .ref ad, .ref ab, .int 0, .int 0, .ref ar, .int 0, .int 0, .int 2, .int 0, .int 0, .int 0, .ref az, .ref ae, .ref ao, .ref an, .ref au, .int 0, .int 0, .int 0, .ref ap, .ref aw, .int 0, .int 0, .int 0, .int 0, .int 0])), (am, .inl (tm, 512, .inl (fun _ => 0)))]) (w1 := []) hP hD [] [0, 1] rfl rfl (by decide) (by decide) hk1 hFc hP1 hD1
  have hK := (hK.sub (tys' := [(tm, .int)]) [0] rfl).app hK1
  generalize H1 = H at hP hS ⊢
  have hP : va_P (dC, dI) vwCl [(h0, .inr (8, [.int 0, .ref am, .ref ad, .ref ab, .int 0, .int 0, .ref ar, .int 0, .int 0, .int 2, .int 0, .int 0, .int 0, .ref az, .ref ae, .ref ao, .ref an, .ref au, .int 0, .int 0, .int 0, .ref ap, .ref aw, .int 0, .int 0, .int 0, .int 0, .int 0])), (am, .inl (tm, 512, .inl (fun _ => 0)))] H := hP
  have hD : va_D A [(h0, .inr (8, [.int 0, .ref am, .ref ad, .ref ab, .int 0, .int 0, .ref ar, .int 0, .int 0, .int 2, .int 0, .int 0, .int 0, .ref az, .ref ae, .ref ao, .ref an, .ref au, .int 0, .int 0, .int 0, .ref ap, .ref aw, .int 0, .int 0, .int 0, .int 0, .int 0])), (am, .inl (tm, 512, .inl (fun _ => 0)))] := hD
  have hK : va_K (dC, dI) vwCl [(tm, .int)] s := hK
  rcases hw with ⟨rfl, _, _, _⟩ | ⟨rfl, _⟩
  · skip
    refine lv_if_eq (tgt := 23) hx hb dX9_examine_9 (by decide) (fun c3 => ?_) (fun c3 => ?_)
    · exact absurd c3 (by decide)
    · skip
      refine lv_aload_n hx hb dX9_examine_12 rfl (lv_at hl 0 rfl) ?_
      refine va_get (D := (dC, dI)) (ci := 8) (v := .ref am) (C := RX9) (T := TX9) (N := 28) hx hb hts (by decide +kernel) hown hK hP 0 rfl rfl 1 (by decide) (hts (.fieldLink RX9 7 "UnibusMachineModel" "memory" "[I") (by decide +kernel)) (fun _ h9 => h9) rfl dX9_examine_13 ?_
      refine lv_iload_n hx hb dX9_examine_16 rfl (lv_at hl 1 rfl) ?_
      refine lv_iconst (v := 2) hx hb dX9_examine_17 (by decide) ?_
      refine lv_idiv hx hb dX9_examine_18 (by decide) ?_
      have f1 := fz_div2 p0 (by omega)
      refine va_iald (D := (dC, dI)) hx hb hK hP 1 0 rfl rfl (vp_in_iff.mpr (by constructor <;> omega)) dX9_examine_19 ?_
      refine lv_goto (tgt := 28) hx hb dX9_examine_20 (by decide) ?_
      have hP9 := hP.sub (ws' := [(h0, .inr (8, [.int 0, .ref am, .ref ad, .ref ab, .int 0, .int 0, .ref ar, .int 0, .int 0, .int 2, .int 0, .int 0, .int 0, .ref az, .ref ae, .ref ao, .ref an, .ref au, .int 0, .int 0, .int 0, .ref ap, .ref aw, .int 0, .int 0, .int 0, .int 0, .int 0]))]) [0] rfl
      have hD9 := hD.sub (ws' := [(h0, .inr (8, [.int 0, .ref am, .ref ad, .ref ab, .int 0, .int 0, .ref ar, .int 0, .int 0, .int 2, .int 0, .int 0, .int 0, .ref az, .ref ae, .ref ao, .ref an, .ref au, .int 0, .int 0, .int 0, .ref ap, .ref aw, .int 0, .int 0, .int 0, .int 0, .int 0]))]) [0] (by decide) rfl
      have hK9 := hK.sub (tys' := []) [] rfl
      exact W.iret (v := 0) hx hb hr (fun t ht hW => ⟨⟨0, 0, rfl, ⟨rfl, (by first | (exact Or.inl ⟨rfl, by omega⟩) | (exact Or.inr ⟨rfl, by omega⟩))⟩, [.ref am, .ref ad, .ref ab, .int 0, .int 0, .ref ar, .int 0, .int 0, .int 2, .int 0, .int 0, .int 0, .ref az, .ref ae, .ref ao, .ref an, .ref au, .int 0, .int 0, .int 0, .ref ap, .ref aw, .int 0, .int 0, .int 0, .int 0, .int 0], by rw [ht]; exact hP9, va_K.moved hW.alike hK9, hD9⟩, hS.F ht⟩) hS.2.2 dX9_examine_28
  · skip
    refine lv_if_eq (tgt := 23) hx hb dX9_examine_9 (by decide) (fun c4 => ?_) (fun c4 => ?_)
    · skip
      refine lv_aload_n hx hb dX9_examine_23 rfl (lv_at hl 0 rfl) ?_
      refine lv_iconst (v := 1) hx hb dX9_examine_24 (by decide) ?_
      have hPc := hP.sub (ws' := [(h0, .inr (8, [.int 0, .ref am, .ref ad, .ref ab, .int 0, .int 0, .ref ar, .int 0, .int 0, .int 2, .int 0, .int 0, .int 0, .ref az, .ref ae, .ref ao, .ref an, .ref au, .int 0, .int 0, .int 0, .ref ap, .ref aw, .int 0, .int 0, .int 0, .int 0, .int 0]))]) [0] rfl
      have hDc := hD.sub (ws' := [(h0, .inr (8, [.int 0, .ref am, .ref ad, .ref ab, .int 0, .int 0, .ref ar, .int 0, .int 0, .int 2, .int 0, .int 0, .int 0, .ref az, .ref ae, .ref ao, .ref an, .ref au, .int 0, .int 0, .int 0, .ref ap, .ref aw, .int 0, .int 0, .int 0, .int 0, .int 0]))]) [0] (by decide) rfl
      have hKc := hK.sub (tys' := []) [] rfl
      have hFc := va_free (wc := [(h0, .inr (8, [.int 0, .ref am, .ref ad, .ref ab, .int 0, .int 0, .ref ar, .int 0, .int 0, .int 2, .int 0, .int 0, .int 0, .ref az, .ref ae, .ref ao, .ref an, .ref au, .int 0, .int 0, .int 0, .ref ap, .ref aw, .int 0, .int 0, .int 0, .int 0, .int 0]))]) hD hS hA [0] rfl
      refine va_calli (va_runV (As := [.int 1]) (rest := []) ⟨hx, hb, hml, hown, hts⟩ (c_mfail l dC dI h0 0 ([.ref am, .ref ad, .ref ab, .int 0, .int 0, .ref ar, .int 0, .int 0, .int 2, .int 0, .int 0, .int 0, .ref az, .ref ae, .ref ao, .ref an, .ref au, .int 0, .int 0, .int 0, .ref ap, .ref aw, .int 0, .int 0, .int 0, .int 0, .int 0]) H.size) (cwV 1 hts gX9_examine_X9_fail rfl rfl rfl (by decide +kernel) ⟨Nat.le_of_ble_eq_true rfl, Nat.le_of_ble_eq_true rfl⟩) ⟨fun a U g mk q => by obtain ⟨q0, q1, qP, qK, qD⟩ := q; exact ⟨q0, q1, qP, va_K.moved (u := U) (U := U.calling g mk a) (Vm.Alike.refl U.vm) qK, qD⟩, va_recv hKc hPc (ci := 8) (q0 := 0) rfl rfl, fun U hU hW => ⟨rfl, by rw [hU], by rw [hU]; exact hPc, va_K.moved hW.alike hKc, hDc.weaken (fun _ _ _ _ => trivial)⟩⟩ rfl rfl hl.1 rfl (lv_room (Nat.le_of_ble_eq_true rfl)) dX9_examine_25 ⟨Nat.le_of_ble_eq_true rfl, Nat.le_of_ble_eq_true rfl⟩) hS (fun q _ h => hFc q h) hFc (fun r5 u6 t H1 locs ht hvm hw hB hz1 hk1 hS => ?_)
      obtain ⟨hP1, hK1, hD1⟩ := hB
      rw [ht] at hP1
      have hK1 := va_K.moved hvm.symm hK1
      try dsimp only at hw
      obtain ⟨hP, hD⟩ := va_join (wr := [(am, .inl (tm, 512, .inl (fun _ => 0)))]) (w1 := [(h0, .inr (8, [.int 1, .ref am, .ref ad, .ref ab, .int 0, .int 0, .ref ar, .int 0, .int 0, .int 2, .int 0, .int 0, .int 0, .ref az, .ref ae, .ref ao, .ref an, .ref au, .int 0, .int 0, .int 0, .ref ap, .ref aw, .int 0, .int 0, .int 0, .int 0, .int 0]))]) hP hD [0] [1] rfl rfl (by decide) (by decide) hk1 hFc hP1 hD1
      have hK := (hK.sub (tys' := [(tm, .int)]) [0] rfl).app hK1
      generalize H1 = H at hP hS ⊢
      have hP : va_P (dC, dI) vwCl [(am, .inl (tm, 512, .inl (fun _ => 0))), (h0, .inr (8, [.int 1, .ref am, .ref ad, .ref ab, .int 0, .int 0, .ref ar, .int 0, .int 0, .int 2, .int 0, .int 0, .int 0, .ref az, .ref ae, .ref ao, .ref an, .ref au, .int 0, .int 0, .int 0, .ref ap, .ref aw, .int 0, .int 0, .int 0, .int 0, .int 0]))] H := hP
      have hD : va_D A [(am, .inl (tm, 512, .inl (fun _ => 0))), (h0, .inr (8, [.int 1, .ref am, .ref ad, .ref ab, .int 0, .int 0, .ref ar, .int 0, .int 0, .int 2, .int 0, .int 0, .int 0, .ref az, .ref ae, .ref ao, .ref an, .ref au, .int 0, .int 0, .int 0, .ref ap, .ref aw, .int 0, .int 0, .int 0, .int 0, .int 0]))] := hD
      have hK : va_K (dC, dI) vwCl [(tm, .int)] s := hK
      obtain rfl := hw
      have hP : va_P (dC, dI) vwCl [(am, .inl (tm, 512, .inl (fun _ => 0))), (h0, .inr (8, [.int 1, .ref am, .ref ad, .ref ab, .int 0, .int 0, .ref ar, .int 0, .int 0, .int 2, .int 0, .int 0, .int 0, .ref az, .ref ae, .ref ao, .ref an, .ref au, .int 0, .int 0, .int 0, .ref ap, .ref aw, .int 0, .int 0, .int 0, .int 0, .int 0]))] H := hP
      have hD : va_D A [(am, .inl (tm, 512, .inl (fun _ => 0))), (h0, .inr (8, [.int 1, .ref am, .ref ad, .ref ab, .int 0, .int 0, .ref ar, .int 0, .int 0, .int 2, .int 0, .int 0, .int 0, .ref az, .ref ae, .ref ao, .ref an, .ref au, .int 0, .int 0, .int 0, .ref ap, .ref aw, .int 0, .int 0, .int 0, .int 0, .int 0]))] := hD
      have hP9 := hP.sub (ws' := [(h0, .inr (8, [.int 1, .ref am, .ref ad, .ref ab, .int 0, .int 0, .ref ar, .int 0, .int 0, .int 2, .int 0, .int 0, .int 0, .ref az, .ref ae, .ref ao, .ref an, .ref au, .int 0, .int 0, .int 0, .ref ap, .ref aw, .int 0, .int 0, .int 0, .int 0, .int 0]))]) [1] rfl
      have hD9 := hD.sub (ws' := [(h0, .inr (8, [.int 1, .ref am, .ref ad, .ref ab, .int 0, .int 0, .ref ar, .int 0, .int 0, .int 2, .int 0, .int 0, .int 0, .ref az, .ref ae, .ref ao, .ref an, .ref au, .int 0, .int 0, .int 0, .ref ap, .ref aw, .int 0, .int 0, .int 0, .int 0, .int 0]))]) [1] (by decide) rfl
      have hK9 := hK.sub (tys' := []) [] rfl
      exact W.iret (v := 0) hx hb hr (fun t ht hW => ⟨⟨0, 1, rfl, ⟨rfl, (by first | (exact Or.inl ⟨rfl, by omega⟩) | (exact Or.inr ⟨rfl, by omega⟩))⟩, [.ref am, .ref ad, .ref ab, .int 0, .int 0, .ref ar, .int 0, .int 0, .int 2, .int 0, .int 0, .int 0, .ref az, .ref ae, .ref ao, .ref an, .ref au, .int 0, .int 0, .int 0, .ref ap, .ref aw, .int 0, .int 0, .int 0, .int 0, .int 0], by rw [ht]; exact hP9, va_K.moved hW.alike hK9, hD9⟩, hS.F ht⟩) hS.2.2 dX9_examine_28
    · exact absurd c4 (by decide)
set_option maxHeartbeats 4000000 in
set_option maxRecDepth 100000 in
theorem c_mset (l : Launch) (dC : Nat → ClassId) (dI : Nat → Nat → Nat) (h0 : Nat) (am : Nat) (ad : Nat) (ab : Nat) (ar : Nat) (az : Nat) (ae : Nat) (ao : Nat) (an : Nat) (au : Nat) (ap : Nat) (aw : Nat) (tr : ClassId) (p0 : Int32) (p1 : Int32) (sz : Nat) : Met l yX9_set wsX9_set ({ frames := 1, cells := 0, slots := 0, locals := 21 } : Room) (va_Pc [.ref h0, .int p0, .int p1] (fun U => U.heap.size = sz ∧ va_P (dC, dI) vwCl [(h0, .inr (8, [.int 0, .ref am, .ref ad, .ref ab, .int 0, .int 0, .ref ar, .int 0, .int 0, .int 2, .int 0, .int 0, .int 0, .ref az, .ref ae, .ref ao, .ref an, .ref au, .int 0, .int 0, .int 0, .ref ap, .ref aw, .int 0, .int 0, .int 0, .int 0, .int 0])), (ar, .inl (tr, 8, .inl (fun _ => 0)))] U.heap ∧ va_K (dC, dI) vwCl [(tr, .int)] U ∧ va_D (fun _ => True) [(h0, .inr (8, [.int 0, .ref am, .ref ad, .ref ab, .int 0, .int 0, .ref ar, .int 0, .int 0, .int 2, .int 0, .int 0, .int 0, .ref az, .ref ae, .ref ao, .ref an, .ref au, .int 0, .int 0, .int 0, .ref ap, .ref aw, .int 0, .int 0, .int 0, .int 0, .int 0])), (ar, .inl (tr, 8, .inl (fun _ => 0)))])) (va_Qv (fun (u : Int32) => (u = 0 ∧ ((0 ≤ p0.toInt ∧ p0.toInt ≤ 7) ∧ (0 ≤ p1.toInt ∧ p1.toInt ≤ 65535))) ∨ (u = 1 ∧ ¬ ((0 ≤ p0.toInt ∧ p0.toInt ≤ 7) ∧ (0 ≤ p1.toInt ∧ p1.toInt ≤ 65535)))) (fun (u : Int32) (t : State) => ∃ (fs : List Value), va_P (dC, dI) vwCl [(h0, .inr (8, .int u :: fs))] t.heap ∧ va_K (dC, dI) vwCl [] t ∧ va_D (va_A [(h0, .inr (8, [.int 0, .ref am, .ref ad, .ref ab, .int 0, .int 0, .ref ar, .int 0, .int 0, .int 2, .int 0, .int 0, .int 0, .ref az, .ref ae, .ref ao, .ref an, .ref au, .int 0, .int 0, .int 0, .ref ap, .ref aw, .int 0, .int 0, .int 0, .int 0, .int 0])), (ar, .inl (tr, 8, .inl (fun _ => 0)))] sz) [(h0, .inr (8, .int u :: fs))]) (va_A [(h0, .inr (8, [.int 0, .ref am, .ref ad, .ref ab, .int 0, .int 0, .ref ar, .int 0, .int 0, .int 2, .int 0, .int 0, .int 0, .ref az, .ref ae, .ref ao, .ref an, .ref au, .int 0, .int 0, .int 0, .ref ap, .ref aw, .int 0, .int 0, .int 0, .int 0, .int 0])), (ar, .inl (tr, 8, .inl (fun _ => 0)))] sz)) 0 0 (va_A [(h0, .inr (8, [.int 0, .ref am, .ref ad, .ref ab, .int 0, .int 0, .ref ar, .int 0, .int 0, .int 2, .int 0, .int 0, .int 0, .ref az, .ref ae, .ref ao, .ref an, .ref au, .int 0, .int 0, .int 0, .ref ap, .ref aw, .int 0, .int 0, .int 0, .int 0, .int 0])), (ar, .inl (tr, 8, .inl (fun _ => 0)))] sz) := by
  refine Met.ofW (cc := cX9_set) (maxL := 3) (ret := none) (by decide) rfl ?_
  intro p e s m args below meth c s₁ B hml hv
  obtain ⟨rfl, hsz, hP, hK, hD0⟩ := hv
  have hx := B.exec
  have hb := B.bytes
  have hr := B.returns
  have hts := atoms_spec (ws := wsX9_set) B.pre
  have hown : s.vm.findClass RX9 = some m.cls := findClass_of_methodNamed B.named
  have hlocks := B.notSynchronized
  subst hsz
  have hD := hD0.self (sz := s.heap.size)
  generalize hAe : va_A [(h0, .inr (8, [.int 0, .ref am, .ref ad, .ref ab, .int 0, .int 0, .ref ar, .int 0, .int 0, .int 2, .int 0, .int 0, .int 0, .ref az, .ref ae, .ref ao, .ref an, .ref au, .int 0, .int 0, .int 0, .ref ap, .ref aw, .int 0, .int 0, .int 0, .int 0, .int 0])), (ar, .inl (tr, 8, .inl (fun _ => 0)))] s.heap.size = A at hD ⊢
  have hA : ∀ q : Nat, s.heap.size ≤ q → A q := fun q h => by rw [← hAe]; exact Or.inr h
  have hS0 : ∀ G : Heap, s.heap = G → va_S A s.heap G [] := fun G h => by subst h; exact va_S.rf
  generalize hHe : s.heap = H at hP ⊢
  have hS := hS0 H hHe
  have hP : va_P (dC, dI) vwCl [(h0, .inr (8, [.int 0, .ref am, .ref ad, .ref ab, .int 0, .int 0, .ref ar, .int 0, .int 0, .int 2, .int 0, .int 0, .int 0, .ref az, .ref ae, .ref ao, .ref an, .ref au, .int 0, .int 0, .int 0, .ref ap, .ref aw, .int 0, .int 0, .int 0, .int 0, .int 0])), (ar, .inl (tr, 8, .inl (fun _ => 0)))] H := hP
  have hD : va_D A [(h0, .inr (8, [.int 0, .ref am, .ref ad, .ref ab, .int 0, .int 0, .ref ar, .int 0, .int 0, .int 2, .int 0, .int 0, .int 0, .ref az, .ref ae, .ref ao, .ref an, .ref au, .int 0, .int 0, .int 0, .ref ap, .ref aw, .int 0, .int 0, .int 0, .int 0, .int 0])), (ar, .inl (tr, 8, .inl (fun _ => 0)))] := hD
  have hK : va_K (dC, dI) vwCl [(tr, .int)] s := hK
  have hl := lv_entry ([.ref h0, .int p0, .int p1]) (n := 3) (Nat.le_of_ble_eq_true rfl)
  rw [lg_entry_eq]
  generalize (lg_sl ([.ref h0, .int p0, .int p1]) ++ List.replicate (3 - (lg_sl ([.ref h0, .int p0, .int p1])).length) Slot.unset).toArray = ls at hl ⊢
  have hl : lv_has ls 3 [(0, .ref h0), (1, .int p0), (2, .int p1)] := hl
  have kk8 : (8 : Int32).toInt = 8 := by decide
  refine lv_aload_n hx hb dX9_set_0 rfl (lv_at hl 0 rfl) ?_
  refine lv_iload_n hx hb dX9_set_1 rfl (lv_at hl 1 rfl) ?_
  refine lv_bipush (v := 8) hx hb dX9_set_2 (by decide) ?_
  have hPc := hP.sub (ws' := []) [] rfl
  have hDc := hD.sub (ws' := []) [] (by decide) rfl
  have hKc := hK.sub (tys' := []) [] rfl
  have hFc := va_free (wc := []) hD hS hA [] rfl
  refine va_calli (va_runS (As := [.int p0, .int 8]) (rest := [.ref h0]) ⟨hx, hb, hml, hown, hts⟩ (c_mout l dC dI p0 8 H.size) (va_cwS 2 hts gX9_set_X9_out rfl rfl rfl (by decide +kernel) ⟨Nat.le_of_ble_eq_true rfl, Nat.le_of_ble_eq_true rfl⟩) ⟨fun a U g mk q => by obtain ⟨q0, q1, qP, qK, qD⟩ := q; exact ⟨q0, q1, qP, va_K.moved (u := U) (U := U.calling g mk a) (Vm.Alike.refl U.vm) qK, qD⟩, fun U hU hW => ⟨rfl, by rw [hU], by rw [hU]; exact hPc, va_K.moved hW.alike hKc, hDc.weaken (fun _ _ _ _ => trivial)⟩⟩ rfl rfl hl.1 rfl (lv_room (Nat.le_of_ble_eq_true rfl)) dX9_set_4 ⟨Nat.le_of_ble_eq_true rfl, Nat.le_of_ble_eq_true rfl⟩) hS (fun q _ h => hFc q h) hFc (fun r1 u2 t H1 locs ht hvm hw hB hz1 hk1 hS => ?_)
  obtain ⟨hP1, hK1, hD1⟩ := hB
  rw [ht] at hP1
  have hK1 := va_K.moved hvm.symm hK1
  try dsimp only at hw
  obtain ⟨hP, hD⟩ := va_join (wr := [(h0, .inr (8, [.int 0, .ref am, .ref ad, .ref ab, .int 0, .int 0, .ref ar, .int 0, .int 0, .int 2, .int 0, .int 0, .int 0, .ref az, .ref ae, .ref ao, .ref an, .ref au, .int 0, .int 0, .int 0, .ref ap, .ref aw, .int 0, .int 0, .int 0, .int 0, .int 0])), (ar, .inl (tr, 8, .inl (fun _ => 0)))]) (w1 := []) hP hD [] [0, 1] rfl rfl (by decide) (by decide) hk1 hFc hP1 hD1
  have hK := (hK.sub (tys' := [(tr, .int)]) [0] rfl).app hK1
  generalize H1 = H at hP hS ⊢
  have hP : va_P (dC, dI) vwCl [(h0, .inr (8, [.int 0, .ref am, .ref ad, .ref ab, .int 0, .int 0, .ref ar, .int 0, .int 0, .int 2, .int 0, .int 0, .int 0, .ref az, .ref ae, .ref ao, .ref an, .ref au, .int 0, .int 0, .int 0, .ref ap, .ref aw, .int 0, .int 0, .int 0, .int 0, .int 0])), (ar, .inl (tr, 8, .inl (fun _ => 0)))] H := hP
  have hD : va_D A [(h0, .inr (8, [.int 0, .ref am, .ref ad, .ref ab, .int 0, .int 0, .ref ar, .int 0, .int 0, .int 2, .int 0, .int 0, .int 0, .ref az, .ref ae, .ref ao, .ref an, .ref au, .int 0, .int 0, .int 0, .ref ap, .ref aw, .int 0, .int 0, .int 0, .int 0, .int 0])), (ar, .inl (tr, 8, .inl (fun _ => 0)))] := hD
  have hK : va_K (dC, dI) vwCl [(tr, .int)] s := hK
  rcases hw with ⟨rfl, _, _⟩ | ⟨rfl, _⟩
  · skip
    refine lv_if_ne (tgt := 17) hx hb dX9_set_7 (by decide) (fun c3 => ?_) (fun c3 => ?_)
    · exact absurd c3 (by decide)
    · skip
      refine lv_iload_n hx hb dX9_set_10 rfl (lv_at hl 2 rfl) ?_
      have hPc := hP.sub (ws' := []) [] rfl
      have hDc := hD.sub (ws' := []) [] (by decide) rfl
      have hKc := hK.sub (tys' := []) [] rfl
      have hFc := va_free (wc := []) hD hS hA [] rfl
      refine va_calli (va_runS (As := [.int p1]) (rest := [.ref h0]) ⟨hx, hb, hml, hown, hts⟩ (c_misWord l dC dI p1 H.size) (va_cwS 1 hts gX9_set_X9_isWord rfl rfl rfl (by decide +kernel) ⟨Nat.le_of_ble_eq_true rfl, Nat.le_of_ble_eq_true rfl⟩) ⟨fun a U g mk q => by obtain ⟨q0, q1, qP, qK, qD⟩ := q; exact ⟨q0, q1, qP, va_K.moved (u := U) (U := U.calling g mk a) (Vm.Alike.refl U.vm) qK, qD⟩, fun U hU hW => ⟨rfl, by rw [hU], by rw [hU]; exact hPc, va_K.moved hW.alike hKc, hDc.weaken (fun _ _ _ _ => trivial)⟩⟩ rfl rfl hl.1 rfl (lv_room (Nat.le_of_ble_eq_true rfl)) dX9_set_11 ⟨Nat.le_of_ble_eq_true rfl, Nat.le_of_ble_eq_true rfl⟩) hS (fun q _ h => hFc q h) hFc (fun r4 u5 t H1 locs ht hvm hw hB hz1 hk1 hS => ?_)
      obtain ⟨hP1, hK1, hD1⟩ := hB
      rw [ht] at hP1
      have hK1 := va_K.moved hvm.symm hK1
      try dsimp only at hw
      obtain ⟨hP, hD⟩ := va_join (wr := [(h0, .inr (8, [.int 0, .ref am, .ref ad, .ref ab, .int 0, .int 0, .ref ar, .int 0, .int 0, .int 2, .int 0, .int 0, .int 0, .ref az, .ref ae, .ref ao, .ref an, .ref au, .int 0, .int 0, .int 0, .ref ap, .ref aw, .int 0, .int 0, .int 0, .int 0, .int 0])), (ar, .inl (tr, 8, .inl (fun _ => 0)))]) (w1 := []) hP hD [] [0, 1] rfl rfl (by decide) (by decide) hk1 hFc hP1 hD1
      have hK := (hK.sub (tys' := [(tr, .int)]) [0] rfl).app hK1
      generalize H1 = H at hP hS ⊢
      have hP : va_P (dC, dI) vwCl [(h0, .inr (8, [.int 0, .ref am, .ref ad, .ref ab, .int 0, .int 0, .ref ar, .int 0, .int 0, .int 2, .int 0, .int 0, .int 0, .ref az, .ref ae, .ref ao, .ref an, .ref au, .int 0, .int 0, .int 0, .ref ap, .ref aw, .int 0, .int 0, .int 0, .int 0, .int 0])), (ar, .inl (tr, 8, .inl (fun _ => 0)))] H := hP
      have hD : va_D A [(h0, .inr (8, [.int 0, .ref am, .ref ad, .ref ab, .int 0, .int 0, .ref ar, .int 0, .int 0, .int 2, .int 0, .int 0, .int 0, .ref az, .ref ae, .ref ao, .ref an, .ref au, .int 0, .int 0, .int 0, .ref ap, .ref aw, .int 0, .int 0, .int 0, .int 0, .int 0])), (ar, .inl (tr, 8, .inl (fun _ => 0)))] := hD
      have hK : va_K (dC, dI) vwCl [(tr, .int)] s := hK
      rcases hw with ⟨rfl, _, _⟩ | ⟨rfl, _⟩
      · skip
        refine lv_if_ne (tgt := 21) hx hb dX9_set_14 (by decide) (fun c6 => ?_) (fun c6 => ?_)
        · skip
          refine lv_iconst (v := 0) hx hb dX9_set_21 (by decide) ?_
          refine va_put (D := (dC, dI)) (ci := 8) (v := .int 0) (ty := .int) (C := RX9) (T := TX9) (N := 28) hx hb hts (by decide +kernel) tyX9 tyX9_ok nmX9 hown hK hP hD hS 0 rfl rfl 0 (by decide) (hts (.fieldLink RX9 48 "UnibusMachineModel" "thrown" "I") (by decide +kernel)) (fun _ h9 => h9) rfl (by decide +kernel) rfl rfl (Nat.le_of_ble_eq_true rfl) dX9_set_22 (fun H locs hP hD hS => ?_)
          have hP : va_P (dC, dI) vwCl [(h0, .inr (8, [.int 0, .ref am, .ref ad, .ref ab, .int 0, .int 0, .ref ar, .int 0, .int 0, .int 2, .int 0, .int 0, .int 0, .ref az, .ref ae, .ref ao, .ref an, .ref au, .int 0, .int 0, .int 0, .ref ap, .ref aw, .int 0, .int 0, .int 0, .int 0, .int 0])), (ar, .inl (tr, 8, .inl (fun _ => 0)))] H := hP
          have hD : va_D A [(h0, .inr (8, [.int 0, .ref am, .ref ad, .ref ab, .int 0, .int 0, .ref ar, .int 0, .int 0, .int 2, .int 0, .int 0, .int 0, .ref az, .ref ae, .ref ao, .ref an, .ref au, .int 0, .int 0, .int 0, .ref ap, .ref aw, .int 0, .int 0, .int 0, .int 0, .int 0])), (ar, .inl (tr, 8, .inl (fun _ => 0)))] := hD
          refine lv_aload_n hx hb dX9_set_25 rfl (lv_at hl 0 rfl) ?_
          refine va_get (D := (dC, dI)) (ci := 8) (v := .int 0) (C := RX9) (T := TX9) (N := 28) hx hb hts (by decide +kernel) hown hK hP 0 rfl rfl 0 (by decide) (hts (.fieldLink RX9 48 "UnibusMachineModel" "thrown" "I") (by decide +kernel)) (fun _ h9 => h9) rfl dX9_set_26 ?_
          refine lv_if_le (tgt := 33) hx hb dX9_set_29 (by decide) (fun c7 => ?_) (fun c7 => ?_)
          · skip
            refine lv_iload_n hx hb dX9_set_33 rfl (lv_at hl 1 rfl) ?_
            refine lv_bipush (v := 6) hx hb dX9_set_34 (by decide) ?_
            refine lv_icmp_ne (tgt := 55) hx hb dX9_set_36 (by decide) (fun c8 => ?_) (fun c8 => ?_)
            · have c8 := fz_ne.mp c8
              have kk6 : (6 : Int32).toInt = 6 := by decide
              refine lv_aload_n hx hb dX9_set_55 rfl (lv_at hl 0 rfl) ?_
              refine va_get (D := (dC, dI)) (ci := 8) (v := .ref ar) (C := RX9) (T := TX9) (N := 28) hx hb hts (by decide +kernel) hown hK hP 0 rfl rfl 6 (by decide) (hts (.fieldLink RX9 19 "UnibusMachineModel" "reg" "[I") (by decide +kernel)) (fun _ h9 => h9) rfl dX9_set_56 ?_
              refine lv_iload_n hx hb dX9_set_59 rfl (lv_at hl 1 rfl) ?_
              refine lv_iload_n hx hb dX9_set_60 rfl (lv_at hl 2 rfl) ?_
              refine va_iast (D := (dC, dI)) hx hb hK hP hD hS 1 0 rfl rfl (vp_in_iff.mpr (by constructor <;> omega)) dX9_set_61 (fun H locs hP hD hS => ?_)
              have hP : va_P (dC, dI) vwCl [(h0, .inr (8, [.int 0, .ref am, .ref ad, .ref ab, .int 0, .int 0, .ref ar, .int 0, .int 0, .int 2, .int 0, .int 0, .int 0, .ref az, .ref ae, .ref ao, .ref an, .ref au, .int 0, .int 0, .int 0, .ref ap, .ref aw, .int 0, .int 0, .int 0, .int 0, .int 0])), (ar, .inl (tr, 8, .inl (upd (fun _ => 0) (p0 : Int32).toNatClampNeg p1)))] H := hP
              have hD : va_D A [(h0, .inr (8, [.int 0, .ref am, .ref ad, .ref ab, .int 0, .int 0, .ref ar, .int 0, .int 0, .int 2, .int 0, .int 0, .int 0, .ref az, .ref ae, .ref ao, .ref an, .ref au, .int 0, .int 0, .int 0, .ref ap, .ref aw, .int 0, .int 0, .int 0, .int 0, .int 0])), (ar, .inl (tr, 8, .inl (upd (fun _ => 0) (p0 : Int32).toNatClampNeg p1)))] := hD
              have hP9 := hP.sub (ws' := [(h0, .inr (8, [.int 0, .ref am, .ref ad, .ref ab, .int 0, .int 0, .ref ar, .int 0, .int 0, .int 2, .int 0, .int 0, .int 0, .ref az, .ref ae, .ref ao, .ref an, .ref au, .int 0, .int 0, .int 0, .ref ap, .ref aw, .int 0, .int 0, .int 0, .int 0, .int 0]))]) [0] rfl
              have hD9 := hD.sub (ws' := [(h0, .inr (8, [.int 0, .ref am, .ref ad, .ref ab, .int 0, .int 0, .ref ar, .int 0, .int 0, .int 2, .int 0, .int 0, .int 0, .ref az, .ref ae, .ref ao, .ref an, .ref au, .int 0, .int 0, .int 0, .ref ap, .ref aw, .int 0, .int 0, .int 0, .int 0, .int 0]))]) [0] (by decide) rfl
              have hK9 := hK.sub (tys' := []) [] rfl
              exact W.vret hx hb hr (fun t ht hW => ⟨⟨0, rfl, (by first | (exact Or.inl ⟨rfl, by omega⟩) | (exact Or.inr ⟨rfl, by omega⟩)), [.ref am, .ref ad, .ref ab, .int 0, .int 0, .ref ar, .int 0, .int 0, .int 2, .int 0, .int 0, .int 0, .ref az, .ref ae, .ref ao, .ref an, .ref au, .int 0, .int 0, .int 0, .ref ap, .ref aw, .int 0, .int 0, .int 0, .int 0, .int 0], by rw [ht]; exact hP9, va_K.moved hW.alike hK9, hD9⟩, hS.F ht⟩) hS.2.2 dX9_set_62
            · have c8 := fz_eq.mp c8
              have kk6 : (6 : Int32).toInt = 6 := by decide
              refine lv_aload_n hx hb dX9_set_39 rfl (lv_at hl 0 rfl) ?_
              refine va_get (D := (dC, dI)) (ci := 8) (v := .int 0) (C := RX9) (T := TX9) (N := 28) hx hb hts (by decide +kernel) hown hK hP 0 rfl rfl 8 (by decide) (hts (.fieldLink RX9 116 "UnibusMachineModel" "mode" "I") (by decide +kernel)) (fun _ h9 => h9) rfl dX9_set_40 ?_
              refine lv_iconst (v := 1) hx hb dX9_set_43 (by decide) ?_
              refine lv_icmp_ne (tgt := 55) hx hb dX9_set_44 (by decide) (fun c9 => ?_) (fun c9 => ?_)
              · skip
                refine lv_aload_n hx hb dX9_set_55 rfl (lv_at hl 0 rfl) ?_
                refine va_get (D := (dC, dI)) (ci := 8) (v := .ref ar) (C := RX9) (T := TX9) (N := 28) hx hb hts (by decide +kernel) hown hK hP 0 rfl rfl 6 (by decide) (hts (.fieldLink RX9 19 "UnibusMachineModel" "reg" "[I") (by decide +kernel)) (fun _ h9 => h9) rfl dX9_set_56 ?_
                refine lv_iload_n hx hb dX9_set_59 rfl (lv_at hl 1 rfl) ?_
                refine lv_iload_n hx hb dX9_set_60 rfl (lv_at hl 2 rfl) ?_
                refine va_iast (D := (dC, dI)) hx hb hK hP hD hS 1 0 rfl rfl (vp_in_iff.mpr (by constructor <;> omega)) dX9_set_61 (fun H locs hP hD hS => ?_)
                have hP : va_P (dC, dI) vwCl [(h0, .inr (8, [.int 0, .ref am, .ref ad, .ref ab, .int 0, .int 0, .ref ar, .int 0, .int 0, .int 2, .int 0, .int 0, .int 0, .ref az, .ref ae, .ref ao, .ref an, .ref au, .int 0, .int 0, .int 0, .ref ap, .ref aw, .int 0, .int 0, .int 0, .int 0, .int 0])), (ar, .inl (tr, 8, .inl (upd (fun _ => 0) (p0 : Int32).toNatClampNeg p1)))] H := hP
                have hD : va_D A [(h0, .inr (8, [.int 0, .ref am, .ref ad, .ref ab, .int 0, .int 0, .ref ar, .int 0, .int 0, .int 2, .int 0, .int 0, .int 0, .ref az, .ref ae, .ref ao, .ref an, .ref au, .int 0, .int 0, .int 0, .ref ap, .ref aw, .int 0, .int 0, .int 0, .int 0, .int 0])), (ar, .inl (tr, 8, .inl (upd (fun _ => 0) (p0 : Int32).toNatClampNeg p1)))] := hD
                have hP9 := hP.sub (ws' := [(h0, .inr (8, [.int 0, .ref am, .ref ad, .ref ab, .int 0, .int 0, .ref ar, .int 0, .int 0, .int 2, .int 0, .int 0, .int 0, .ref az, .ref ae, .ref ao, .ref an, .ref au, .int 0, .int 0, .int 0, .ref ap, .ref aw, .int 0, .int 0, .int 0, .int 0, .int 0]))]) [0] rfl
                have hD9 := hD.sub (ws' := [(h0, .inr (8, [.int 0, .ref am, .ref ad, .ref ab, .int 0, .int 0, .ref ar, .int 0, .int 0, .int 2, .int 0, .int 0, .int 0, .ref az, .ref ae, .ref ao, .ref an, .ref au, .int 0, .int 0, .int 0, .ref ap, .ref aw, .int 0, .int 0, .int 0, .int 0, .int 0]))]) [0] (by decide) rfl
                have hK9 := hK.sub (tys' := []) [] rfl
                exact W.vret hx hb hr (fun t ht hW => ⟨⟨0, rfl, (by first | (exact Or.inl ⟨rfl, by omega⟩) | (exact Or.inr ⟨rfl, by omega⟩)), [.ref am, .ref ad, .ref ab, .int 0, .int 0, .ref ar, .int 0, .int 0, .int 2, .int 0, .int 0, .int 0, .ref az, .ref ae, .ref ao, .ref an, .ref au, .int 0, .int 0, .int 0, .ref ap, .ref aw, .int 0, .int 0, .int 0, .int 0, .int 0], by rw [ht]; exact hP9, va_K.moved hW.alike hK9, hD9⟩, hS.F ht⟩) hS.2.2 dX9_set_62
              · exact absurd c9 (by decide)
          · exact absurd c7 (by decide)
        · exact absurd c6 (by decide)
      · skip
        refine lv_if_ne (tgt := 21) hx hb dX9_set_14 (by decide) (fun c10 => ?_) (fun c10 => ?_)
        · exact absurd c10 (by decide)
        · skip
          refine lv_iconst (v := 1) hx hb dX9_set_17 (by decide) ?_
          refine lv_goto (tgt := 22) hx hb dX9_set_18 (by decide) ?_
          refine va_put (D := (dC, dI)) (ci := 8) (v := .int 1) (ty := .int) (C := RX9) (T := TX9) (N := 28) hx hb hts (by decide +kernel) tyX9 tyX9_ok nmX9 hown hK hP hD hS 0 rfl rfl 0 (by decide) (hts (.fieldLink RX9 48 "UnibusMachineModel" "thrown" "I") (by decide +kernel)) (fun _ h9 => h9) rfl (by decide +kernel) rfl rfl (Nat.le_of_ble_eq_true rfl) dX9_set_22 (fun H locs hP hD hS => ?_)
          have hP : va_P (dC, dI) vwCl [(h0, .inr (8, [.int 1, .ref am, .ref ad, .ref ab, .int 0, .int 0, .ref ar, .int 0, .int 0, .int 2, .int 0, .int 0, .int 0, .ref az, .ref ae, .ref ao, .ref an, .ref au, .int 0, .int 0, .int 0, .ref ap, .ref aw, .int 0, .int 0, .int 0, .int 0, .int 0])), (ar, .inl (tr, 8, .inl (fun _ => 0)))] H := hP
          have hD : va_D A [(h0, .inr (8, [.int 1, .ref am, .ref ad, .ref ab, .int 0, .int 0, .ref ar, .int 0, .int 0, .int 2, .int 0, .int 0, .int 0, .ref az, .ref ae, .ref ao, .ref an, .ref au, .int 0, .int 0, .int 0, .ref ap, .ref aw, .int 0, .int 0, .int 0, .int 0, .int 0])), (ar, .inl (tr, 8, .inl (fun _ => 0)))] := hD
          refine lv_aload_n hx hb dX9_set_25 rfl (lv_at hl 0 rfl) ?_
          refine va_get (D := (dC, dI)) (ci := 8) (v := .int 1) (C := RX9) (T := TX9) (N := 28) hx hb hts (by decide +kernel) hown hK hP 0 rfl rfl 0 (by decide) (hts (.fieldLink RX9 48 "UnibusMachineModel" "thrown" "I") (by decide +kernel)) (fun _ h9 => h9) rfl dX9_set_26 ?_
          refine lv_if_le (tgt := 33) hx hb dX9_set_29 (by decide) (fun c11 => ?_) (fun c11 => ?_)
          · exact absurd c11 (by decide)
          · skip
            have hP9 := hP.sub (ws' := [(h0, .inr (8, [.int 1, .ref am, .ref ad, .ref ab, .int 0, .int 0, .ref ar, .int 0, .int 0, .int 2, .int 0, .int 0, .int 0, .ref az, .ref ae, .ref ao, .ref an, .ref au, .int 0, .int 0, .int 0, .ref ap, .ref aw, .int 0, .int 0, .int 0, .int 0, .int 0]))]) [0] rfl
            have hD9 := hD.sub (ws' := [(h0, .inr (8, [.int 1, .ref am, .ref ad, .ref ab, .int 0, .int 0, .ref ar, .int 0, .int 0, .int 2, .int 0, .int 0, .int 0, .ref az, .ref ae, .ref ao, .ref an, .ref au, .int 0, .int 0, .int 0, .ref ap, .ref aw, .int 0, .int 0, .int 0, .int 0, .int 0]))]) [0] (by decide) rfl
            have hK9 := hK.sub (tys' := []) [] rfl
            exact W.vret hx hb hr (fun t ht hW => ⟨⟨1, rfl, (by first | (exact Or.inl ⟨rfl, by omega⟩) | (exact Or.inr ⟨rfl, by omega⟩)), [.ref am, .ref ad, .ref ab, .int 0, .int 0, .ref ar, .int 0, .int 0, .int 2, .int 0, .int 0, .int 0, .ref az, .ref ae, .ref ao, .ref an, .ref au, .int 0, .int 0, .int 0, .ref ap, .ref aw, .int 0, .int 0, .int 0, .int 0, .int 0], by rw [ht]; exact hP9, va_K.moved hW.alike hK9, hD9⟩, hS.F ht⟩) hS.2.2 dX9_set_32
  · skip
    refine lv_if_ne (tgt := 17) hx hb dX9_set_7 (by decide) (fun c12 => ?_) (fun c12 => ?_)
    · skip
      refine lv_iconst (v := 1) hx hb dX9_set_17 (by decide) ?_
      refine lv_goto (tgt := 22) hx hb dX9_set_18 (by decide) ?_
      refine va_put (D := (dC, dI)) (ci := 8) (v := .int 1) (ty := .int) (C := RX9) (T := TX9) (N := 28) hx hb hts (by decide +kernel) tyX9 tyX9_ok nmX9 hown hK hP hD hS 0 rfl rfl 0 (by decide) (hts (.fieldLink RX9 48 "UnibusMachineModel" "thrown" "I") (by decide +kernel)) (fun _ h9 => h9) rfl (by decide +kernel) rfl rfl (Nat.le_of_ble_eq_true rfl) dX9_set_22 (fun H locs hP hD hS => ?_)
      have hP : va_P (dC, dI) vwCl [(h0, .inr (8, [.int 1, .ref am, .ref ad, .ref ab, .int 0, .int 0, .ref ar, .int 0, .int 0, .int 2, .int 0, .int 0, .int 0, .ref az, .ref ae, .ref ao, .ref an, .ref au, .int 0, .int 0, .int 0, .ref ap, .ref aw, .int 0, .int 0, .int 0, .int 0, .int 0])), (ar, .inl (tr, 8, .inl (fun _ => 0)))] H := hP
      have hD : va_D A [(h0, .inr (8, [.int 1, .ref am, .ref ad, .ref ab, .int 0, .int 0, .ref ar, .int 0, .int 0, .int 2, .int 0, .int 0, .int 0, .ref az, .ref ae, .ref ao, .ref an, .ref au, .int 0, .int 0, .int 0, .ref ap, .ref aw, .int 0, .int 0, .int 0, .int 0, .int 0])), (ar, .inl (tr, 8, .inl (fun _ => 0)))] := hD
      refine lv_aload_n hx hb dX9_set_25 rfl (lv_at hl 0 rfl) ?_
      refine va_get (D := (dC, dI)) (ci := 8) (v := .int 1) (C := RX9) (T := TX9) (N := 28) hx hb hts (by decide +kernel) hown hK hP 0 rfl rfl 0 (by decide) (hts (.fieldLink RX9 48 "UnibusMachineModel" "thrown" "I") (by decide +kernel)) (fun _ h9 => h9) rfl dX9_set_26 ?_
      refine lv_if_le (tgt := 33) hx hb dX9_set_29 (by decide) (fun c13 => ?_) (fun c13 => ?_)
      · exact absurd c13 (by decide)
      · skip
        have hP9 := hP.sub (ws' := [(h0, .inr (8, [.int 1, .ref am, .ref ad, .ref ab, .int 0, .int 0, .ref ar, .int 0, .int 0, .int 2, .int 0, .int 0, .int 0, .ref az, .ref ae, .ref ao, .ref an, .ref au, .int 0, .int 0, .int 0, .ref ap, .ref aw, .int 0, .int 0, .int 0, .int 0, .int 0]))]) [0] rfl
        have hD9 := hD.sub (ws' := [(h0, .inr (8, [.int 1, .ref am, .ref ad, .ref ab, .int 0, .int 0, .ref ar, .int 0, .int 0, .int 2, .int 0, .int 0, .int 0, .ref az, .ref ae, .ref ao, .ref an, .ref au, .int 0, .int 0, .int 0, .ref ap, .ref aw, .int 0, .int 0, .int 0, .int 0, .int 0]))]) [0] (by decide) rfl
        have hK9 := hK.sub (tys' := []) [] rfl
        exact W.vret hx hb hr (fun t ht hW => ⟨⟨1, rfl, (by first | (exact Or.inl ⟨rfl, by omega⟩) | (exact Or.inr ⟨rfl, by omega⟩)), [.ref am, .ref ad, .ref ab, .int 0, .int 0, .ref ar, .int 0, .int 0, .int 2, .int 0, .int 0, .int 0, .ref az, .ref ae, .ref ao, .ref an, .ref au, .int 0, .int 0, .int 0, .ref ap, .ref aw, .int 0, .int 0, .int 0, .int 0, .int 0], by rw [ht]; exact hP9, va_K.moved hW.alike hK9, hD9⟩, hS.F ht⟩) hS.2.2 dX9_set_32
    · exact absurd c12 (by decide)
set_option maxHeartbeats 4000000 in
set_option maxRecDepth 100000 in
theorem c_mregister (l : Launch) (dC : Nat → ClassId) (dI : Nat → Nat → Nat) (h0 : Nat) (am : Nat) (ad : Nat) (ab : Nat) (ar : Nat) (az : Nat) (ae : Nat) (ao : Nat) (an : Nat) (au : Nat) (ap : Nat) (aw : Nat) (tr : ClassId) (p0 : Int32) (sz : Nat) : Met l yX9_register wsX9_register ({ frames := 1, cells := 0, slots := 0, locals := 21 } : Room) (va_Pc [.ref h0, .int p0] (fun U => U.heap.size = sz ∧ va_P (dC, dI) vwCl [(h0, .inr (8, [.int 0, .ref am, .ref ad, .ref ab, .int 0, .int 0, .ref ar, .int 0, .int 0, .int 2, .int 0, .int 0, .int 0, .ref az, .ref ae, .ref ao, .ref an, .ref au, .int 0, .int 0, .int 0, .ref ap, .ref aw, .int 0, .int 0, .int 0, .int 0, .int 0])), (ar, .inl (tr, 8, .inl (fun _ => 0)))] U.heap ∧ va_K (dC, dI) vwCl [(tr, .int)] U ∧ va_D (fun _ => True) [(h0, .inr (8, [.int 0, .ref am, .ref ad, .ref ab, .int 0, .int 0, .ref ar, .int 0, .int 0, .int 2, .int 0, .int 0, .int 0, .ref az, .ref ae, .ref ao, .ref an, .ref au, .int 0, .int 0, .int 0, .ref ap, .ref aw, .int 0, .int 0, .int 0, .int 0, .int 0])), (ar, .inl (tr, 8, .inl (fun _ => 0)))])) (va_Qi (fun (r : Int32) (u : Int32) => r = 0 ∧ ((u = 0 ∧ (0 ≤ p0.toInt ∧ p0.toInt ≤ 9)) ∨ (u = 1 ∧ ¬ (0 ≤ p0.toInt ∧ p0.toInt ≤ 9)))) (fun (u : Int32) (t : State) => ∃ (fs : List Value), va_P (dC, dI) vwCl [(h0, .inr (8, .int u :: fs))] t.heap ∧ va_K (dC, dI) vwCl [] t ∧ va_D (va_A [(h0, .inr (8, [.int 0, .ref am, .ref ad, .ref ab, .int 0, .int 0, .ref ar, .int 0, .int 0, .int 2, .int 0, .int 0, .int 0, .ref az, .ref ae, .ref ao, .ref an, .ref au, .int 0, .int 0, .int 0, .ref ap, .ref aw, .int 0, .int 0, .int 0, .int 0, .int 0])), (ar, .inl (tr, 8, .inl (fun _ => 0)))] sz) [(h0, .inr (8, .int u :: fs))]) (va_A [(h0, .inr (8, [.int 0, .ref am, .ref ad, .ref ab, .int 0, .int 0, .ref ar, .int 0, .int 0, .int 2, .int 0, .int 0, .int 0, .ref az, .ref ae, .ref ao, .ref an, .ref au, .int 0, .int 0, .int 0, .ref ap, .ref aw, .int 0, .int 0, .int 0, .int 0, .int 0])), (ar, .inl (tr, 8, .inl (fun _ => 0)))] sz)) 0 0 (va_A [(h0, .inr (8, [.int 0, .ref am, .ref ad, .ref ab, .int 0, .int 0, .ref ar, .int 0, .int 0, .int 2, .int 0, .int 0, .int 0, .ref az, .ref ae, .ref ao, .ref an, .ref au, .int 0, .int 0, .int 0, .ref ap, .ref aw, .int 0, .int 0, .int 0, .int 0, .int 0])), (ar, .inl (tr, 8, .inl (fun _ => 0)))] sz) := by
  refine Met.ofW (cc := cX9_register) (maxL := 2) (ret := (some .int)) (by decide) rfl ?_
  intro p e s m args below meth c s₁ B hml hv
  obtain ⟨rfl, hsz, hP, hK, hD0⟩ := hv
  have hx := B.exec
  have hb := B.bytes
  have hr := B.returns
  have hts := atoms_spec (ws := wsX9_register) B.pre
  have hown : s.vm.findClass RX9 = some m.cls := findClass_of_methodNamed B.named
  have hlocks := B.notSynchronized
  subst hsz
  have hD := hD0.self (sz := s.heap.size)
  generalize hAe : va_A [(h0, .inr (8, [.int 0, .ref am, .ref ad, .ref ab, .int 0, .int 0, .ref ar, .int 0, .int 0, .int 2, .int 0, .int 0, .int 0, .ref az, .ref ae, .ref ao, .ref an, .ref au, .int 0, .int 0, .int 0, .ref ap, .ref aw, .int 0, .int 0, .int 0, .int 0, .int 0])), (ar, .inl (tr, 8, .inl (fun _ => 0)))] s.heap.size = A at hD ⊢
  have hA : ∀ q : Nat, s.heap.size ≤ q → A q := fun q h => by rw [← hAe]; exact Or.inr h
  have hS0 : ∀ G : Heap, s.heap = G → va_S A s.heap G [] := fun G h => by subst h; exact va_S.rf
  generalize hHe : s.heap = H at hP ⊢
  have hS := hS0 H hHe
  have hP : va_P (dC, dI) vwCl [(h0, .inr (8, [.int 0, .ref am, .ref ad, .ref ab, .int 0, .int 0, .ref ar, .int 0, .int 0, .int 2, .int 0, .int 0, .int 0, .ref az, .ref ae, .ref ao, .ref an, .ref au, .int 0, .int 0, .int 0, .ref ap, .ref aw, .int 0, .int 0, .int 0, .int 0, .int 0])), (ar, .inl (tr, 8, .inl (fun _ => 0)))] H := hP
  have hD : va_D A [(h0, .inr (8, [.int 0, .ref am, .ref ad, .ref ab, .int 0, .int 0, .ref ar, .int 0, .int 0, .int 2, .int 0, .int 0, .int 0, .ref az, .ref ae, .ref ao, .ref an, .ref au, .int 0, .int 0, .int 0, .ref ap, .ref aw, .int 0, .int 0, .int 0, .int 0, .int 0])), (ar, .inl (tr, 8, .inl (fun _ => 0)))] := hD
  have hK : va_K (dC, dI) vwCl [(tr, .int)] s := hK
  have hl := lv_entry ([.ref h0, .int p0]) (n := 2) (Nat.le_of_ble_eq_true rfl)
  rw [lg_entry_eq]
  generalize (lg_sl ([.ref h0, .int p0]) ++ List.replicate (2 - (lg_sl ([.ref h0, .int p0])).length) Slot.unset).toArray = ls at hl ⊢
  have hl : lv_has ls 2 [(0, .ref h0), (1, .int p0)] := hl
  have kk8 : (8 : Int32).toInt = 8 := by decide
  have kk9 : (9 : Int32).toInt = 9 := by decide
  have kk10 : (10 : Int32).toInt = 10 := by decide
  refine lv_aload_n hx hb dX9_register_0 rfl (lv_at hl 0 rfl) ?_
  refine lv_iconst (v := 0) hx hb dX9_register_1 (by decide) ?_
  refine va_put (D := (dC, dI)) (ci := 8) (v := .int 0) (ty := .int) (C := RX9) (T := TX9) (N := 28) hx hb hts (by decide +kernel) tyX9 tyX9_ok nmX9 hown hK hP hD hS 0 rfl rfl 0 (by decide) (hts (.fieldLink RX9 48 "UnibusMachineModel" "thrown" "I") (by decide +kernel)) (fun _ h9 => h9) rfl (by decide +kernel) rfl rfl (Nat.le_of_ble_eq_true rfl) dX9_register_2 (fun H locs hP hD hS => ?_)
  have hP : va_P (dC, dI) vwCl [(h0, .inr (8, [.int 0, .ref am, .ref ad, .ref ab, .int 0, .int 0, .ref ar, .int 0, .int 0, .int 2, .int 0, .int 0, .int 0, .ref az, .ref ae, .ref ao, .ref an, .ref au, .int 0, .int 0, .int 0, .ref ap, .ref aw, .int 0, .int 0, .int 0, .int 0, .int 0])), (ar, .inl (tr, 8, .inl (fun _ => 0)))] H := hP
  have hD : va_D A [(h0, .inr (8, [.int 0, .ref am, .ref ad, .ref ab, .int 0, .int 0, .ref ar, .int 0, .int 0, .int 2, .int 0, .int 0, .int 0, .ref az, .ref ae, .ref ao, .ref an, .ref au, .int 0, .int 0, .int 0, .ref ap, .ref aw, .int 0, .int 0, .int 0, .int 0, .int 0])), (ar, .inl (tr, 8, .inl (fun _ => 0)))] := hD
  refine lv_iload_n hx hb dX9_register_5 rfl (lv_at hl 1 rfl) ?_
  refine lv_bipush (v := 10) hx hb dX9_register_6 (by decide) ?_
  have hPc := hP.sub (ws' := []) [] rfl
  have hDc := hD.sub (ws' := []) [] (by decide) rfl
  have hKc := hK.sub (tys' := []) [] rfl
  have hFc := va_free (wc := []) hD hS hA [] rfl
  refine va_calli (va_runS (As := [.int p0, .int 10]) (rest := []) ⟨hx, hb, hml, hown, hts⟩ (c_mout l dC dI p0 10 H.size) (va_cwS 2 hts gX9_register_X9_out rfl rfl rfl (by decide +kernel) ⟨Nat.le_of_ble_eq_true rfl, Nat.le_of_ble_eq_true rfl⟩) ⟨fun a U g mk q => by obtain ⟨q0, q1, qP, qK, qD⟩ := q; exact ⟨q0, q1, qP, va_K.moved (u := U) (U := U.calling g mk a) (Vm.Alike.refl U.vm) qK, qD⟩, fun U hU hW => ⟨rfl, by rw [hU], by rw [hU]; exact hPc, va_K.moved hW.alike hKc, hDc.weaken (fun _ _ _ _ => trivial)⟩⟩ rfl rfl hl.1 rfl (lv_room (Nat.le_of_ble_eq_true rfl)) dX9_register_8 ⟨Nat.le_of_ble_eq_true rfl, Nat.le_of_ble_eq_true rfl⟩) hS (fun q _ h => hFc q h) hFc (fun r1 u2 t H1 locs ht hvm hw hB hz1 hk1 hS => ?_)
  obtain ⟨hP1, hK1, hD1⟩ := hB
  rw [ht] at hP1
  have hK1 := va_K.moved hvm.symm hK1
  try dsimp only at hw
  obtain ⟨hP, hD⟩ := va_join (wr := [(h0, .inr (8, [.int 0, .ref am, .ref ad, .ref ab, .int 0, .int 0, .ref ar, .int 0, .int 0, .int 2, .int 0, .int 0, .int 0, .ref az, .ref ae, .ref ao, .ref an, .ref au, .int 0, .int 0, .int 0, .ref ap, .ref aw, .int 0, .int 0, .int 0, .int 0, .int 0])), (ar, .inl (tr, 8, .inl (fun _ => 0)))]) (w1 := []) hP hD [] [0, 1] rfl rfl (by decide) (by decide) hk1 hFc hP1 hD1
  have hK := (hK.sub (tys' := [(tr, .int)]) [0] rfl).app hK1
  generalize H1 = H at hP hS ⊢
  have hP : va_P (dC, dI) vwCl [(h0, .inr (8, [.int 0, .ref am, .ref ad, .ref ab, .int 0, .int 0, .ref ar, .int 0, .int 0, .int 2, .int 0, .int 0, .int 0, .ref az, .ref ae, .ref ao, .ref an, .ref au, .int 0, .int 0, .int 0, .ref ap, .ref aw, .int 0, .int 0, .int 0, .int 0, .int 0])), (ar, .inl (tr, 8, .inl (fun _ => 0)))] H := hP
  have hD : va_D A [(h0, .inr (8, [.int 0, .ref am, .ref ad, .ref ab, .int 0, .int 0, .ref ar, .int 0, .int 0, .int 2, .int 0, .int 0, .int 0, .ref az, .ref ae, .ref ao, .ref an, .ref au, .int 0, .int 0, .int 0, .ref ap, .ref aw, .int 0, .int 0, .int 0, .int 0, .int 0])), (ar, .inl (tr, 8, .inl (fun _ => 0)))] := hD
  have hK : va_K (dC, dI) vwCl [(tr, .int)] s := hK
  rcases hw with ⟨rfl, _, _⟩ | ⟨rfl, _⟩
  · skip
    refine lv_if_eq (tgt := 20) hx hb dX9_register_11 (by decide) (fun c3 => ?_) (fun c3 => ?_)
    · skip
      refine lv_iload_n hx hb dX9_register_20 rfl (lv_at hl 1 rfl) ?_
      refine lv_bipush (v := 8) hx hb dX9_register_21 (by decide) ?_
      refine lv_icmp_ne (tgt := 33) hx hb dX9_register_23 (by decide) (fun c4 => ?_) (fun c4 => ?_)
      · have c4 := fz_ne.mp c4
        have kk8 : (8 : Int32).toInt = 8 := by decide
        refine lv_iload_n hx hb dX9_register_33 rfl (lv_at hl 1 rfl) ?_
        refine lv_bipush (v := 9) hx hb dX9_register_34 (by decide) ?_
        refine lv_icmp_ne (tgt := 46) hx hb dX9_register_36 (by decide) (fun c5 => ?_) (fun c5 => ?_)
        · have c5 := fz_ne.mp c5
          have kk9 : (9 : Int32).toInt = 9 := by decide
          refine lv_aload_n hx hb dX9_register_46 rfl (lv_at hl 0 rfl) ?_
          refine va_get (D := (dC, dI)) (ci := 8) (v := .ref ar) (C := RX9) (T := TX9) (N := 28) hx hb hts (by decide +kernel) hown hK hP 0 rfl rfl 6 (by decide) (hts (.fieldLink RX9 19 "UnibusMachineModel" "reg" "[I") (by decide +kernel)) (fun _ h9 => h9) rfl dX9_register_47 ?_
          refine lv_iload_n hx hb dX9_register_50 rfl (lv_at hl 1 rfl) ?_
          refine va_iald (D := (dC, dI)) hx hb hK hP 1 0 rfl rfl (vp_in_iff.mpr (by constructor <;> omega)) dX9_register_51 ?_
          have hP9 := hP.sub (ws' := [(h0, .inr (8, [.int 0, .ref am, .ref ad, .ref ab, .int 0, .int 0, .ref ar, .int 0, .int 0, .int 2, .int 0, .int 0, .int 0, .ref az, .ref ae, .ref ao, .ref an, .ref au, .int 0, .int 0, .int 0, .ref ap, .ref aw, .int 0, .int 0, .int 0, .int 0, .int 0]))]) [0] rfl
          have hD9 := hD.sub (ws' := [(h0, .inr (8, [.int 0, .ref am, .ref ad, .ref ab, .int 0, .int 0, .ref ar, .int 0, .int 0, .int 2, .int 0, .int 0, .int 0, .ref az, .ref ae, .ref ao, .ref an, .ref au, .int 0, .int 0, .int 0, .ref ap, .ref aw, .int 0, .int 0, .int 0, .int 0, .int 0]))]) [0] (by decide) rfl
          have hK9 := hK.sub (tys' := []) [] rfl
          exact W.iret (v := 0) hx hb hr (fun t ht hW => ⟨⟨0, 0, rfl, ⟨rfl, (by first | (exact Or.inl ⟨rfl, by omega⟩) | (exact Or.inr ⟨rfl, by omega⟩))⟩, [.ref am, .ref ad, .ref ab, .int 0, .int 0, .ref ar, .int 0, .int 0, .int 2, .int 0, .int 0, .int 0, .ref az, .ref ae, .ref ao, .ref an, .ref au, .int 0, .int 0, .int 0, .ref ap, .ref aw, .int 0, .int 0, .int 0, .int 0, .int 0], by rw [ht]; exact hP9, va_K.moved hW.alike hK9, hD9⟩, hS.F ht⟩) hS.2.2 dX9_register_52
        · have c5 := fz_eq.mp c5
          have kk9 : (9 : Int32).toInt = 9 := by decide
          refine lv_aload_n hx hb dX9_register_39 rfl (lv_at hl 0 rfl) ?_
          refine va_get (D := (dC, dI)) (ci := 8) (v := .int 0) (C := RX9) (T := TX9) (N := 28) hx hb hts (by decide +kernel) hown hK hP 0 rfl rfl 7 (by decide) (hts (.fieldLink RX9 119 "UnibusMachineModel" "farStack" "I") (by decide +kernel)) (fun _ h9 => h9) rfl dX9_register_40 ?_
          refine lv_goto (tgt := 52) hx hb dX9_register_43 (by decide) ?_
          have hP9 := hP.sub (ws' := [(h0, .inr (8, [.int 0, .ref am, .ref ad, .ref ab, .int 0, .int 0, .ref ar, .int 0, .int 0, .int 2, .int 0, .int 0, .int 0, .ref az, .ref ae, .ref ao, .ref an, .ref au, .int 0, .int 0, .int 0, .ref ap, .ref aw, .int 0, .int 0, .int 0, .int 0, .int 0]))]) [0] rfl
          have hD9 := hD.sub (ws' := [(h0, .inr (8, [.int 0, .ref am, .ref ad, .ref ab, .int 0, .int 0, .ref ar, .int 0, .int 0, .int 2, .int 0, .int 0, .int 0, .ref az, .ref ae, .ref ao, .ref an, .ref au, .int 0, .int 0, .int 0, .ref ap, .ref aw, .int 0, .int 0, .int 0, .int 0, .int 0]))]) [0] (by decide) rfl
          have hK9 := hK.sub (tys' := []) [] rfl
          exact W.iret (v := 0) hx hb hr (fun t ht hW => ⟨⟨0, 0, rfl, ⟨rfl, (by first | (exact Or.inl ⟨rfl, by omega⟩) | (exact Or.inr ⟨rfl, by omega⟩))⟩, [.ref am, .ref ad, .ref ab, .int 0, .int 0, .ref ar, .int 0, .int 0, .int 2, .int 0, .int 0, .int 0, .ref az, .ref ae, .ref ao, .ref an, .ref au, .int 0, .int 0, .int 0, .ref ap, .ref aw, .int 0, .int 0, .int 0, .int 0, .int 0], by rw [ht]; exact hP9, va_K.moved hW.alike hK9, hD9⟩, hS.F ht⟩) hS.2.2 dX9_register_52
      · have c4 := fz_eq.mp c4
        have kk8 : (8 : Int32).toInt = 8 := by decide
        refine lv_aload_n hx hb dX9_register_26 rfl (lv_at hl 0 rfl) ?_
        refine va_get (D := (dC, dI)) (ci := 8) (v := .int 0) (C := RX9) (T := TX9) (N := 28) hx hb hts (by decide +kernel) hown hK hP 0 rfl rfl 5 (by decide) (hts (.fieldLink RX9 84 "UnibusMachineModel" "status" "I") (by decide +kernel)) (fun _ h9 => h9) rfl dX9_register_27 ?_
        refine lv_goto (tgt := 52) hx hb dX9_register_30 (by decide) ?_
        have hP9 := hP.sub (ws' := [(h0, .inr (8, [.int 0, .ref am, .ref ad, .ref ab, .int 0, .int 0, .ref ar, .int 0, .int 0, .int 2, .int 0, .int 0, .int 0, .ref az, .ref ae, .ref ao, .ref an, .ref au, .int 0, .int 0, .int 0, .ref ap, .ref aw, .int 0, .int 0, .int 0, .int 0, .int 0]))]) [0] rfl
        have hD9 := hD.sub (ws' := [(h0, .inr (8, [.int 0, .ref am, .ref ad, .ref ab, .int 0, .int 0, .ref ar, .int 0, .int 0, .int 2, .int 0, .int 0, .int 0, .ref az, .ref ae, .ref ao, .ref an, .ref au, .int 0, .int 0, .int 0, .ref ap, .ref aw, .int 0, .int 0, .int 0, .int 0, .int 0]))]) [0] (by decide) rfl
        have hK9 := hK.sub (tys' := []) [] rfl
        exact W.iret (v := 0) hx hb hr (fun t ht hW => ⟨⟨0, 0, rfl, ⟨rfl, (by first | (exact Or.inl ⟨rfl, by omega⟩) | (exact Or.inr ⟨rfl, by omega⟩))⟩, [.ref am, .ref ad, .ref ab, .int 0, .int 0, .ref ar, .int 0, .int 0, .int 2, .int 0, .int 0, .int 0, .ref az, .ref ae, .ref ao, .ref an, .ref au, .int 0, .int 0, .int 0, .ref ap, .ref aw, .int 0, .int 0, .int 0, .int 0, .int 0], by rw [ht]; exact hP9, va_K.moved hW.alike hK9, hD9⟩, hS.F ht⟩) hS.2.2 dX9_register_52
    · exact absurd c3 (by decide)
  · skip
    refine lv_if_eq (tgt := 20) hx hb dX9_register_11 (by decide) (fun c6 => ?_) (fun c6 => ?_)
    · exact absurd c6 (by decide)
    · skip
      refine lv_aload_n hx hb dX9_register_14 rfl (lv_at hl 0 rfl) ?_
      refine lv_iconst (v := 1) hx hb dX9_register_15 (by decide) ?_
      have hPc := hP.sub (ws' := [(h0, .inr (8, [.int 0, .ref am, .ref ad, .ref ab, .int 0, .int 0, .ref ar, .int 0, .int 0, .int 2, .int 0, .int 0, .int 0, .ref az, .ref ae, .ref ao, .ref an, .ref au, .int 0, .int 0, .int 0, .ref ap, .ref aw, .int 0, .int 0, .int 0, .int 0, .int 0]))]) [0] rfl
      have hDc := hD.sub (ws' := [(h0, .inr (8, [.int 0, .ref am, .ref ad, .ref ab, .int 0, .int 0, .ref ar, .int 0, .int 0, .int 2, .int 0, .int 0, .int 0, .ref az, .ref ae, .ref ao, .ref an, .ref au, .int 0, .int 0, .int 0, .ref ap, .ref aw, .int 0, .int 0, .int 0, .int 0, .int 0]))]) [0] (by decide) rfl
      have hKc := hK.sub (tys' := []) [] rfl
      have hFc := va_free (wc := [(h0, .inr (8, [.int 0, .ref am, .ref ad, .ref ab, .int 0, .int 0, .ref ar, .int 0, .int 0, .int 2, .int 0, .int 0, .int 0, .ref az, .ref ae, .ref ao, .ref an, .ref au, .int 0, .int 0, .int 0, .ref ap, .ref aw, .int 0, .int 0, .int 0, .int 0, .int 0]))]) hD hS hA [0] rfl
      refine va_calli (va_runV (As := [.int 1]) (rest := []) ⟨hx, hb, hml, hown, hts⟩ (c_mfail l dC dI h0 0 ([.ref am, .ref ad, .ref ab, .int 0, .int 0, .ref ar, .int 0, .int 0, .int 2, .int 0, .int 0, .int 0, .ref az, .ref ae, .ref ao, .ref an, .ref au, .int 0, .int 0, .int 0, .ref ap, .ref aw, .int 0, .int 0, .int 0, .int 0, .int 0]) H.size) (cwV 1 hts gX9_register_X9_fail rfl rfl rfl (by decide +kernel) ⟨Nat.le_of_ble_eq_true rfl, Nat.le_of_ble_eq_true rfl⟩) ⟨fun a U g mk q => by obtain ⟨q0, q1, qP, qK, qD⟩ := q; exact ⟨q0, q1, qP, va_K.moved (u := U) (U := U.calling g mk a) (Vm.Alike.refl U.vm) qK, qD⟩, va_recv hKc hPc (ci := 8) (q0 := 0) rfl rfl, fun U hU hW => ⟨rfl, by rw [hU], by rw [hU]; exact hPc, va_K.moved hW.alike hKc, hDc.weaken (fun _ _ _ _ => trivial)⟩⟩ rfl rfl hl.1 rfl (lv_room (Nat.le_of_ble_eq_true rfl)) dX9_register_16 ⟨Nat.le_of_ble_eq_true rfl, Nat.le_of_ble_eq_true rfl⟩) hS (fun q _ h => hFc q h) hFc (fun r7 u8 t H1 locs ht hvm hw hB hz1 hk1 hS => ?_)
      obtain ⟨hP1, hK1, hD1⟩ := hB
      rw [ht] at hP1
      have hK1 := va_K.moved hvm.symm hK1
      try dsimp only at hw
      obtain ⟨hP, hD⟩ := va_join (wr := [(ar, .inl (tr, 8, .inl (fun _ => 0)))]) (w1 := [(h0, .inr (8, [.int 1, .ref am, .ref ad, .ref ab, .int 0, .int 0, .ref ar, .int 0, .int 0, .int 2, .int 0, .int 0, .int 0, .ref az, .ref ae, .ref ao, .ref an, .ref au, .int 0, .int 0, .int 0, .ref ap, .ref aw, .int 0, .int 0, .int 0, .int 0, .int 0]))]) hP hD [0] [1] rfl rfl (by decide) (by decide) hk1 hFc hP1 hD1
      have hK := (hK.sub (tys' := [(tr, .int)]) [0] rfl).app hK1
      generalize H1 = H at hP hS ⊢
      have hP : va_P (dC, dI) vwCl [(ar, .inl (tr, 8, .inl (fun _ => 0))), (h0, .inr (8, [.int 1, .ref am, .ref ad, .ref ab, .int 0, .int 0, .ref ar, .int 0, .int 0, .int 2, .int 0, .int 0, .int 0, .ref az, .ref ae, .ref ao, .ref an, .ref au, .int 0, .int 0, .int 0, .ref ap, .ref aw, .int 0, .int 0, .int 0, .int 0, .int 0]))] H := hP
      have hD : va_D A [(ar, .inl (tr, 8, .inl (fun _ => 0))), (h0, .inr (8, [.int 1, .ref am, .ref ad, .ref ab, .int 0, .int 0, .ref ar, .int 0, .int 0, .int 2, .int 0, .int 0, .int 0, .ref az, .ref ae, .ref ao, .ref an, .ref au, .int 0, .int 0, .int 0, .ref ap, .ref aw, .int 0, .int 0, .int 0, .int 0, .int 0]))] := hD
      have hK : va_K (dC, dI) vwCl [(tr, .int)] s := hK
      obtain rfl := hw
      have hP : va_P (dC, dI) vwCl [(ar, .inl (tr, 8, .inl (fun _ => 0))), (h0, .inr (8, [.int 1, .ref am, .ref ad, .ref ab, .int 0, .int 0, .ref ar, .int 0, .int 0, .int 2, .int 0, .int 0, .int 0, .ref az, .ref ae, .ref ao, .ref an, .ref au, .int 0, .int 0, .int 0, .ref ap, .ref aw, .int 0, .int 0, .int 0, .int 0, .int 0]))] H := hP
      have hD : va_D A [(ar, .inl (tr, 8, .inl (fun _ => 0))), (h0, .inr (8, [.int 1, .ref am, .ref ad, .ref ab, .int 0, .int 0, .ref ar, .int 0, .int 0, .int 2, .int 0, .int 0, .int 0, .ref az, .ref ae, .ref ao, .ref an, .ref au, .int 0, .int 0, .int 0, .ref ap, .ref aw, .int 0, .int 0, .int 0, .int 0, .int 0]))] := hD
      have hP9 := hP.sub (ws' := [(h0, .inr (8, [.int 1, .ref am, .ref ad, .ref ab, .int 0, .int 0, .ref ar, .int 0, .int 0, .int 2, .int 0, .int 0, .int 0, .ref az, .ref ae, .ref ao, .ref an, .ref au, .int 0, .int 0, .int 0, .ref ap, .ref aw, .int 0, .int 0, .int 0, .int 0, .int 0]))]) [1] rfl
      have hD9 := hD.sub (ws' := [(h0, .inr (8, [.int 1, .ref am, .ref ad, .ref ab, .int 0, .int 0, .ref ar, .int 0, .int 0, .int 2, .int 0, .int 0, .int 0, .ref az, .ref ae, .ref ao, .ref an, .ref au, .int 0, .int 0, .int 0, .ref ap, .ref aw, .int 0, .int 0, .int 0, .int 0, .int 0]))]) [1] (by decide) rfl
      have hK9 := hK.sub (tys' := []) [] rfl
      exact W.iret (v := 0) hx hb hr (fun t ht hW => ⟨⟨0, 1, rfl, ⟨rfl, (by first | (exact Or.inl ⟨rfl, by omega⟩) | (exact Or.inr ⟨rfl, by omega⟩))⟩, [.ref am, .ref ad, .ref ab, .int 0, .int 0, .ref ar, .int 0, .int 0, .int 2, .int 0, .int 0, .int 0, .ref az, .ref ae, .ref ao, .ref an, .ref au, .int 0, .int 0, .int 0, .ref ap, .ref aw, .int 0, .int 0, .int 0, .int 0, .int 0], by rw [ht]; exact hP9, va_K.moved hW.alike hK9, hD9⟩, hS.F ht⟩) hS.2.2 dX9_register_19
set_option maxHeartbeats 4000000 in
set_option maxRecDepth 100000 in
theorem c_msettle (l : Launch) (dC : Nat → ClassId) (dI : Nat → Nat → Nat) (h0 : Nat) (am : Nat) (ad : Nat) (ab : Nat) (ar : Nat) (az : Nat) (ae : Nat) (ao : Nat) (an : Nat) (au : Nat) (ap : Nat) (aw : Nat) (sz : Nat) : Met l yX9_settle wsX9_settle ({ frames := 0, cells := 0, slots := 0, locals := 0 } : Room) (va_Pc [.ref h0] (fun U => U.heap.size = sz ∧ va_P (dC, dI) vwCl [(h0, .inr (8, [.int 0, .ref am, .ref ad, .ref ab, .int 0, .int 224, .ref ar, .int 0, .int 0, .int 2, .int 0, .int 0, .int 0, .ref az, .ref ae, .ref ao, .ref an, .ref au, .int 0, .int 0, .int 0, .ref ap, .ref aw, .int 0, .int 0, .int 0, .int 0, .int 0]))] U.heap ∧ va_K (dC, dI) vwCl [] U ∧ va_D (fun _ => True) [(h0, .inr (8, [.int 0, .ref am, .ref ad, .ref ab, .int 0, .int 224, .ref ar, .int 0, .int 0, .int 2, .int 0, .int 0, .int 0, .ref az, .ref ae, .ref ao, .ref an, .ref au, .int 0, .int 0, .int 0, .ref ap, .ref aw, .int 0, .int 0, .int 0, .int 0, .int 0]))])) (va_Qv (fun (u : Unit) => True) (fun (u : Unit) (t : State) => va_P (dC, dI) vwCl [(h0, .inr (8, [.int 0, .ref am, .ref ad, .ref ab, .int 0, .int 224, .ref ar, .int 0, .int 0, .int 2, .int 0, .int 0, .int 0, .ref az, .ref ae, .ref ao, .ref an, .ref au, .int 0, .int 0, .int 0, .ref ap, .ref aw, .int 0, .int 0, .int 0, .int 0, .int 0]))] t.heap ∧ va_K (dC, dI) vwCl [] t ∧ va_D (va_A [(h0, .inr (8, [.int 0, .ref am, .ref ad, .ref ab, .int 0, .int 224, .ref ar, .int 0, .int 0, .int 2, .int 0, .int 0, .int 0, .ref az, .ref ae, .ref ao, .ref an, .ref au, .int 0, .int 0, .int 0, .ref ap, .ref aw, .int 0, .int 0, .int 0, .int 0, .int 0]))] sz) [(h0, .inr (8, [.int 0, .ref am, .ref ad, .ref ab, .int 0, .int 224, .ref ar, .int 0, .int 0, .int 2, .int 0, .int 0, .int 0, .ref az, .ref ae, .ref ao, .ref an, .ref au, .int 0, .int 0, .int 0, .ref ap, .ref aw, .int 0, .int 0, .int 0, .int 0, .int 0]))]) (va_A [(h0, .inr (8, [.int 0, .ref am, .ref ad, .ref ab, .int 0, .int 224, .ref ar, .int 0, .int 0, .int 2, .int 0, .int 0, .int 0, .ref az, .ref ae, .ref ao, .ref an, .ref au, .int 0, .int 0, .int 0, .ref ap, .ref aw, .int 0, .int 0, .int 0, .int 0, .int 0]))] sz)) 0 0 (va_A [(h0, .inr (8, [.int 0, .ref am, .ref ad, .ref ab, .int 0, .int 224, .ref ar, .int 0, .int 0, .int 2, .int 0, .int 0, .int 0, .ref az, .ref ae, .ref ao, .ref an, .ref au, .int 0, .int 0, .int 0, .ref ap, .ref aw, .int 0, .int 0, .int 0, .int 0, .int 0]))] sz) := by
  refine Met.ofW (cc := cX9_settle) (maxL := 3) (ret := none) (by decide) rfl ?_
  intro p e s m args below meth c s₁ B hml hv
  obtain ⟨rfl, hsz, hP, hK, hD0⟩ := hv
  have hx := B.exec
  have hb := B.bytes
  have hr := B.returns
  have hts := atoms_spec (ws := wsX9_settle) B.pre
  have hown : s.vm.findClass RX9 = some m.cls := findClass_of_methodNamed B.named
  have hlocks := B.notSynchronized
  subst hsz
  have hD := hD0.self (sz := s.heap.size)
  generalize hAe : va_A [(h0, .inr (8, [.int 0, .ref am, .ref ad, .ref ab, .int 0, .int 224, .ref ar, .int 0, .int 0, .int 2, .int 0, .int 0, .int 0, .ref az, .ref ae, .ref ao, .ref an, .ref au, .int 0, .int 0, .int 0, .ref ap, .ref aw, .int 0, .int 0, .int 0, .int 0, .int 0]))] s.heap.size = A at hD ⊢
  have hA : ∀ q : Nat, s.heap.size ≤ q → A q := fun q h => by rw [← hAe]; exact Or.inr h
  have hS0 : ∀ G : Heap, s.heap = G → va_S A s.heap G [] := fun G h => by subst h; exact va_S.rf
  generalize hHe : s.heap = H at hP ⊢
  have hS := hS0 H hHe
  have hP : va_P (dC, dI) vwCl [(h0, .inr (8, [.int 0, .ref am, .ref ad, .ref ab, .int 0, .int 224, .ref ar, .int 0, .int 0, .int 2, .int 0, .int 0, .int 0, .ref az, .ref ae, .ref ao, .ref an, .ref au, .int 0, .int 0, .int 0, .ref ap, .ref aw, .int 0, .int 0, .int 0, .int 0, .int 0]))] H := hP
  have hD : va_D A [(h0, .inr (8, [.int 0, .ref am, .ref ad, .ref ab, .int 0, .int 224, .ref ar, .int 0, .int 0, .int 2, .int 0, .int 0, .int 0, .ref az, .ref ae, .ref ao, .ref an, .ref au, .int 0, .int 0, .int 0, .ref ap, .ref aw, .int 0, .int 0, .int 0, .int 0, .int 0]))] := hD
  have hK : va_K (dC, dI) vwCl [] s := hK
  have hl := lv_entry ([.ref h0]) (n := 3) (Nat.le_of_ble_eq_true rfl)
  rw [lg_entry_eq]
  generalize (lg_sl ([.ref h0]) ++ List.replicate (3 - (lg_sl ([.ref h0])).length) Slot.unset).toArray = ls at hl ⊢
  have hl : lv_has ls 3 [(0, .ref h0)] := hl
  refine lv_aload_n hx hb dX9_settle_0 rfl (lv_at hl 0 rfl) ?_
  refine va_get (D := (dC, dI)) (ci := 8) (v := .int 224) (C := RX9) (T := TX9) (N := 28) hx hb hts (by decide +kernel) hown hK hP 0 rfl rfl 5 (by decide) (hts (.fieldLink RX9 84 "UnibusMachineModel" "status" "I") (by decide +kernel)) (fun _ h9 => h9) rfl dX9_settle_1 ?_
  refine lv_sipush (v := 16384) hx hb dX9_settle_4 (by decide) ?_
  refine lv_idiv hx hb dX9_settle_7 (by decide) ?_
  refine lv_topi (fun y1 ey1 => ?_)
  obtain rfl : y1 = 0 := by rw [ey1]; decide
  refine lv_iconst (v := 2) hx hb dX9_settle_8 (by decide) ?_
  refine lv_irem hx hb dX9_settle_9 (by decide) ?_
  refine lv_topi (fun y2 ey2 => ?_)
  obtain rfl : y2 = 0 := by rw [ey2]; decide
  refine lv_istore_n (lv' := [(1, .int 0), (0, .ref h0)]) hx hb dX9_settle_10 rfl hl (by decide) rfl (fun ls hl => ?_)
  refine lv_iload_n hx hb dX9_settle_11 rfl (lv_at hl 0 rfl) ?_
  refine lv_aload_n hx hb dX9_settle_12 rfl (lv_at hl 1 rfl) ?_
  refine va_get (D := (dC, dI)) (ci := 8) (v := .int 0) (C := RX9) (T := TX9) (N := 28) hx hb hts (by decide +kernel) hown hK hP 0 rfl rfl 8 (by decide) (hts (.fieldLink RX9 116 "UnibusMachineModel" "mode" "I") (by decide +kernel)) (fun _ h9 => h9) rfl dX9_settle_13 ?_
  refine lv_icmp_ne (tgt := 20) hx hb dX9_settle_16 (by decide) (fun c3 => ?_) (fun c3 => ?_)
  · exact absurd c3 (by decide)
  · skip
    have hP9 := hP.sub (ws' := [(h0, .inr (8, [.int 0, .ref am, .ref ad, .ref ab, .int 0, .int 224, .ref ar, .int 0, .int 0, .int 2, .int 0, .int 0, .int 0, .ref az, .ref ae, .ref ao, .ref an, .ref au, .int 0, .int 0, .int 0, .ref ap, .ref aw, .int 0, .int 0, .int 0, .int 0, .int 0]))]) [0] rfl
    have hD9 := hD.sub (ws' := [(h0, .inr (8, [.int 0, .ref am, .ref ad, .ref ab, .int 0, .int 224, .ref ar, .int 0, .int 0, .int 2, .int 0, .int 0, .int 0, .ref az, .ref ae, .ref ao, .ref an, .ref au, .int 0, .int 0, .int 0, .ref ap, .ref aw, .int 0, .int 0, .int 0, .int 0, .int 0]))]) [0] (by decide) rfl
    have hK9 := hK.sub (tys' := []) [] rfl
    exact W.vret hx hb hr (fun t ht hW => ⟨⟨(), rfl, trivial, by rw [ht]; exact hP9, va_K.moved hW.alike hK9, hD9⟩, hS.F ht⟩) hS.2.2 dX9_settle_19
set_option maxHeartbeats 4000000 in
set_option maxRecDepth 100000 in
theorem c_mstart (l : Launch) (dC : Nat → ClassId) (dI : Nat → Nat → Nat) (h0 : Nat) (am : Nat) (ad : Nat) (ab : Nat) (ar : Nat) (az : Nat) (ae : Nat) (ao : Nat) (an : Nat) (au : Nat) (ap : Nat) (aw : Nat) (tr : ClassId) (p0 : Int32) (sz : Nat) : Met l yX9_start wsX9_start ({ frames := 1, cells := 0, slots := 0, locals := 22 } : Room) (va_Pc [.ref h0, .int p0] (fun U => U.heap.size = sz ∧ va_P (dC, dI) vwCl [(h0, .inr (8, [.int 0, .ref am, .ref ad, .ref ab, .int 0, .int 0, .ref ar, .int 0, .int 0, .int 2, .int 0, .int 0, .int 0, .ref az, .ref ae, .ref ao, .ref an, .ref au, .int 0, .int 0, .int 0, .ref ap, .ref aw, .int 0, .int 0, .int 0, .int 0, .int 0])), (ar, .inl (tr, 8, .inl (fun _ => 0)))] U.heap ∧ va_K (dC, dI) vwCl [(tr, .int)] U ∧ va_D (fun _ => True) [(h0, .inr (8, [.int 0, .ref am, .ref ad, .ref ab, .int 0, .int 0, .ref ar, .int 0, .int 0, .int 2, .int 0, .int 0, .int 0, .ref az, .ref ae, .ref ao, .ref an, .ref au, .int 0, .int 0, .int 0, .ref ap, .ref aw, .int 0, .int 0, .int 0, .int 0, .int 0])), (ar, .inl (tr, 8, .inl (fun _ => 0)))])) (va_Qv (fun (u : Int32) => (u = 0 ∧ (0 ≤ p0.toInt ∧ p0.toInt ≤ 65535)) ∨ (u = 1 ∧ ¬ (0 ≤ p0.toInt ∧ p0.toInt ≤ 65535))) (fun (u : Int32) (t : State) => ∃ (fs : List Value), va_P (dC, dI) vwCl [(h0, .inr (8, .int u :: fs))] t.heap ∧ va_K (dC, dI) vwCl [] t ∧ va_D (va_A [(h0, .inr (8, [.int 0, .ref am, .ref ad, .ref ab, .int 0, .int 0, .ref ar, .int 0, .int 0, .int 2, .int 0, .int 0, .int 0, .ref az, .ref ae, .ref ao, .ref an, .ref au, .int 0, .int 0, .int 0, .ref ap, .ref aw, .int 0, .int 0, .int 0, .int 0, .int 0])), (ar, .inl (tr, 8, .inl (fun _ => 0)))] sz) [(h0, .inr (8, .int u :: fs))]) (va_A [(h0, .inr (8, [.int 0, .ref am, .ref ad, .ref ab, .int 0, .int 0, .ref ar, .int 0, .int 0, .int 2, .int 0, .int 0, .int 0, .ref az, .ref ae, .ref ao, .ref an, .ref au, .int 0, .int 0, .int 0, .ref ap, .ref aw, .int 0, .int 0, .int 0, .int 0, .int 0])), (ar, .inl (tr, 8, .inl (fun _ => 0)))] sz)) 0 0 (va_A [(h0, .inr (8, [.int 0, .ref am, .ref ad, .ref ab, .int 0, .int 0, .ref ar, .int 0, .int 0, .int 2, .int 0, .int 0, .int 0, .ref az, .ref ae, .ref ao, .ref an, .ref au, .int 0, .int 0, .int 0, .ref ap, .ref aw, .int 0, .int 0, .int 0, .int 0, .int 0])), (ar, .inl (tr, 8, .inl (fun _ => 0)))] sz) := by
  refine Met.ofW (cc := cX9_start) (maxL := 2) (ret := none) (by decide) rfl ?_
  intro p e s m args below meth c s₁ B hml hv
  obtain ⟨rfl, hsz, hP, hK, hD0⟩ := hv
  have hx := B.exec
  have hb := B.bytes
  have hr := B.returns
  have hts := atoms_spec (ws := wsX9_start) B.pre
  have hown : s.vm.findClass RX9 = some m.cls := findClass_of_methodNamed B.named
  have hlocks := B.notSynchronized
  subst hsz
  have hD := hD0.self (sz := s.heap.size)
  generalize hAe : va_A [(h0, .inr (8, [.int 0, .ref am, .ref ad, .ref ab, .int 0, .int 0, .ref ar, .int 0, .int 0, .int 2, .int 0, .int 0, .int 0, .ref az, .ref ae, .ref ao, .ref an, .ref au, .int 0, .int 0, .int 0, .ref ap, .ref aw, .int 0, .int 0, .int 0, .int 0, .int 0])), (ar, .inl (tr, 8, .inl (fun _ => 0)))] s.heap.size = A at hD ⊢
  have hA : ∀ q : Nat, s.heap.size ≤ q → A q := fun q h => by rw [← hAe]; exact Or.inr h
  have hS0 : ∀ G : Heap, s.heap = G → va_S A s.heap G [] := fun G h => by subst h; exact va_S.rf
  generalize hHe : s.heap = H at hP ⊢
  have hS := hS0 H hHe
  have hP : va_P (dC, dI) vwCl [(h0, .inr (8, [.int 0, .ref am, .ref ad, .ref ab, .int 0, .int 0, .ref ar, .int 0, .int 0, .int 2, .int 0, .int 0, .int 0, .ref az, .ref ae, .ref ao, .ref an, .ref au, .int 0, .int 0, .int 0, .ref ap, .ref aw, .int 0, .int 0, .int 0, .int 0, .int 0])), (ar, .inl (tr, 8, .inl (fun _ => 0)))] H := hP
  have hD : va_D A [(h0, .inr (8, [.int 0, .ref am, .ref ad, .ref ab, .int 0, .int 0, .ref ar, .int 0, .int 0, .int 2, .int 0, .int 0, .int 0, .ref az, .ref ae, .ref ao, .ref an, .ref au, .int 0, .int 0, .int 0, .ref ap, .ref aw, .int 0, .int 0, .int 0, .int 0, .int 0])), (ar, .inl (tr, 8, .inl (fun _ => 0)))] := hD
  have hK : va_K (dC, dI) vwCl [(tr, .int)] s := hK
  have hl := lv_entry ([.ref h0, .int p0]) (n := 2) (Nat.le_of_ble_eq_true rfl)
  rw [lg_entry_eq]
  generalize (lg_sl ([.ref h0, .int p0]) ++ List.replicate (2 - (lg_sl ([.ref h0, .int p0])).length) Slot.unset).toArray = ls at hl ⊢
  have hl : lv_has ls 2 [(0, .ref h0), (1, .int p0)] := hl
  refine lv_aload_n hx hb dX9_start_0 rfl (lv_at hl 0 rfl) ?_
  refine lv_iload_n hx hb dX9_start_1 rfl (lv_at hl 1 rfl) ?_
  have hPc := hP.sub (ws' := []) [] rfl
  have hDc := hD.sub (ws' := []) [] (by decide) rfl
  have hKc := hK.sub (tys' := []) [] rfl
  have hFc := va_free (wc := []) hD hS hA [] rfl
  refine va_calli (va_runS (As := [.int p0]) (rest := [.ref h0]) ⟨hx, hb, hml, hown, hts⟩ (c_misWord l dC dI p0 H.size) (va_cwS 1 hts gX9_start_X9_isWord rfl rfl rfl (by decide +kernel) ⟨Nat.le_of_ble_eq_true rfl, Nat.le_of_ble_eq_true rfl⟩) ⟨fun a U g mk q => by obtain ⟨q0, q1, qP, qK, qD⟩ := q; exact ⟨q0, q1, qP, va_K.moved (u := U) (U := U.calling g mk a) (Vm.Alike.refl U.vm) qK, qD⟩, fun U hU hW => ⟨rfl, by rw [hU], by rw [hU]; exact hPc, va_K.moved hW.alike hKc, hDc.weaken (fun _ _ _ _ => trivial)⟩⟩ rfl rfl hl.1 rfl (lv_room (Nat.le_of_ble_eq_true rfl)) dX9_start_2 ⟨Nat.le_of_ble_eq_true rfl, Nat.le_of_ble_eq_true rfl⟩) hS (fun q _ h => hFc q h) hFc (fun r1 u2 t H1 locs ht hvm hw hB hz1 hk1 hS => ?_)
  obtain ⟨hP1, hK1, hD1⟩ := hB
  rw [ht] at hP1
  have hK1 := va_K.moved hvm.symm hK1
  try dsimp only at hw
  obtain ⟨hP, hD⟩ := va_join (wr := [(h0, .inr (8, [.int 0, .ref am, .ref ad, .ref ab, .int 0, .int 0, .ref ar, .int 0, .int 0, .int 2, .int 0, .int 0, .int 0, .ref az, .ref ae, .ref ao, .ref an, .ref au, .int 0, .int 0, .int 0, .ref ap, .ref aw, .int 0, .int 0, .int 0, .int 0, .int 0])), (ar, .inl (tr, 8, .inl (fun _ => 0)))]) (w1 := []) hP hD [] [0, 1] rfl rfl (by decide) (by decide) hk1 hFc hP1 hD1
  have hK := (hK.sub (tys' := [(tr, .int)]) [0] rfl).app hK1
  generalize H1 = H at hP hS ⊢
  have hP : va_P (dC, dI) vwCl [(h0, .inr (8, [.int 0, .ref am, .ref ad, .ref ab, .int 0, .int 0, .ref ar, .int 0, .int 0, .int 2, .int 0, .int 0, .int 0, .ref az, .ref ae, .ref ao, .ref an, .ref au, .int 0, .int 0, .int 0, .ref ap, .ref aw, .int 0, .int 0, .int 0, .int 0, .int 0])), (ar, .inl (tr, 8, .inl (fun _ => 0)))] H := hP
  have hD : va_D A [(h0, .inr (8, [.int 0, .ref am, .ref ad, .ref ab, .int 0, .int 0, .ref ar, .int 0, .int 0, .int 2, .int 0, .int 0, .int 0, .ref az, .ref ae, .ref ao, .ref an, .ref au, .int 0, .int 0, .int 0, .ref ap, .ref aw, .int 0, .int 0, .int 0, .int 0, .int 0])), (ar, .inl (tr, 8, .inl (fun _ => 0)))] := hD
  have hK : va_K (dC, dI) vwCl [(tr, .int)] s := hK
  rcases hw with ⟨rfl, _, _⟩ | ⟨rfl, _⟩
  · skip
    refine lv_if_eq (tgt := 12) hx hb dX9_start_5 (by decide) (fun c3 => ?_) (fun c3 => ?_)
    · exact absurd c3 (by decide)
    · skip
      refine lv_iconst (v := 0) hx hb dX9_start_8 (by decide) ?_
      refine lv_goto (tgt := 13) hx hb dX9_start_9 (by decide) ?_
      refine va_put (D := (dC, dI)) (ci := 8) (v := .int 0) (ty := .int) (C := RX9) (T := TX9) (N := 28) hx hb hts (by decide +kernel) tyX9 tyX9_ok nmX9 hown hK hP hD hS 0 rfl rfl 0 (by decide) (hts (.fieldLink RX9 48 "UnibusMachineModel" "thrown" "I") (by decide +kernel)) (fun _ h9 => h9) rfl (by decide +kernel) rfl rfl (Nat.le_of_ble_eq_true rfl) dX9_start_13 (fun H locs hP hD hS => ?_)
      have hP : va_P (dC, dI) vwCl [(h0, .inr (8, [.int 0, .ref am, .ref ad, .ref ab, .int 0, .int 0, .ref ar, .int 0, .int 0, .int 2, .int 0, .int 0, .int 0, .ref az, .ref ae, .ref ao, .ref an, .ref au, .int 0, .int 0, .int 0, .ref ap, .ref aw, .int 0, .int 0, .int 0, .int 0, .int 0])), (ar, .inl (tr, 8, .inl (fun _ => 0)))] H := hP
      have hD : va_D A [(h0, .inr (8, [.int 0, .ref am, .ref ad, .ref ab, .int 0, .int 0, .ref ar, .int 0, .int 0, .int 2, .int 0, .int 0, .int 0, .ref az, .ref ae, .ref ao, .ref an, .ref au, .int 0, .int 0, .int 0, .ref ap, .ref aw, .int 0, .int 0, .int 0, .int 0, .int 0])), (ar, .inl (tr, 8, .inl (fun _ => 0)))] := hD
      refine lv_aload_n hx hb dX9_start_16 rfl (lv_at hl 0 rfl) ?_
      refine va_get (D := (dC, dI)) (ci := 8) (v := .int 0) (C := RX9) (T := TX9) (N := 28) hx hb hts (by decide +kernel) hown hK hP 0 rfl rfl 0 (by decide) (hts (.fieldLink RX9 48 "UnibusMachineModel" "thrown" "I") (by decide +kernel)) (fun _ h9 => h9) rfl dX9_start_17 ?_
      refine lv_if_le (tgt := 24) hx hb dX9_start_20 (by decide) (fun c4 => ?_) (fun c4 => ?_)
      · skip
        refine lv_aload_n hx hb dX9_start_24 rfl (lv_at hl 0 rfl) ?_
        refine lv_sipush (v := 224) hx hb dX9_start_25 (by decide) ?_
        refine va_put (D := (dC, dI)) (ci := 8) (v := .int 224) (ty := .int) (C := RX9) (T := TX9) (N := 28) hx hb hts (by decide +kernel) tyX9 tyX9_ok nmX9 hown hK hP hD hS 0 rfl rfl 5 (by decide) (hts (.fieldLink RX9 84 "UnibusMachineModel" "status" "I") (by decide +kernel)) (fun _ h9 => h9) rfl (by decide +kernel) rfl rfl (Nat.le_of_ble_eq_true rfl) dX9_start_28 (fun H locs hP hD hS => ?_)
        have hP : va_P (dC, dI) vwCl [(h0, .inr (8, [.int 0, .ref am, .ref ad, .ref ab, .int 0, .int 224, .ref ar, .int 0, .int 0, .int 2, .int 0, .int 0, .int 0, .ref az, .ref ae, .ref ao, .ref an, .ref au, .int 0, .int 0, .int 0, .ref ap, .ref aw, .int 0, .int 0, .int 0, .int 0, .int 0])), (ar, .inl (tr, 8, .inl (fun _ => 0)))] H := hP
        have hD : va_D A [(h0, .inr (8, [.int 0, .ref am, .ref ad, .ref ab, .int 0, .int 224, .ref ar, .int 0, .int 0, .int 2, .int 0, .int 0, .int 0, .ref az, .ref ae, .ref ao, .ref an, .ref au, .int 0, .int 0, .int 0, .ref ap, .ref aw, .int 0, .int 0, .int 0, .int 0, .int 0])), (ar, .inl (tr, 8, .inl (fun _ => 0)))] := hD
        refine lv_aload_n hx hb dX9_start_31 rfl (lv_at hl 0 rfl) ?_
        have hPc := hP.sub (ws' := [(h0, .inr (8, [.int 0, .ref am, .ref ad, .ref ab, .int 0, .int 224, .ref ar, .int 0, .int 0, .int 2, .int 0, .int 0, .int 0, .ref az, .ref ae, .ref ao, .ref an, .ref au, .int 0, .int 0, .int 0, .ref ap, .ref aw, .int 0, .int 0, .int 0, .int 0, .int 0]))]) [0] rfl
        have hDc := hD.sub (ws' := [(h0, .inr (8, [.int 0, .ref am, .ref ad, .ref ab, .int 0, .int 224, .ref ar, .int 0, .int 0, .int 2, .int 0, .int 0, .int 0, .ref az, .ref ae, .ref ao, .ref an, .ref au, .int 0, .int 0, .int 0, .ref ap, .ref aw, .int 0, .int 0, .int 0, .int 0, .int 0]))]) [0] (by decide) rfl
        have hKc := hK.sub (tys' := []) [] rfl
        have hFc := va_free (wc := [(h0, .inr (8, [.int 0, .ref am, .ref ad, .ref ab, .int 0, .int 224, .ref ar, .int 0, .int 0, .int 2, .int 0, .int 0, .int 0, .ref az, .ref ae, .ref ao, .ref an, .ref au, .int 0, .int 0, .int 0, .ref ap, .ref aw, .int 0, .int 0, .int 0, .int 0, .int 0]))]) hD hS hA [0] rfl
        refine va_callv (va_runV (As := []) (rest := []) ⟨hx, hb, hml, hown, hts⟩ (c_msettle l dC dI h0 am ad ab ar az ae ao an au ap aw H.size) (cwV 0 hts gX9_start_X9_settle rfl rfl rfl (by decide +kernel) ⟨Nat.le_of_ble_eq_true rfl, Nat.le_of_ble_eq_true rfl⟩) ⟨fun a U g mk q => by obtain ⟨q0, q1, qP, qK, qD⟩ := q; exact ⟨q0, q1, qP, va_K.moved (u := U) (U := U.calling g mk a) (Vm.Alike.refl U.vm) qK, qD⟩, va_recv hKc hPc (ci := 8) (q0 := 0) rfl rfl, fun U hU hW => ⟨rfl, by rw [hU], by rw [hU]; exact hPc, va_K.moved hW.alike hKc, hDc.weaken (fun _ _ _ _ => trivial)⟩⟩ rfl rfl hl.1 rfl (lv_room (Nat.le_of_ble_eq_true rfl)) dX9_start_32 ⟨Nat.le_of_ble_eq_true rfl, Nat.le_of_ble_eq_true rfl⟩) hS (fun q _ h => hFc q h) hFc (fun u6 t H1 locs ht hvm hw hB hz1 hk1 hS => ?_)
        obtain ⟨hP1, hK1, hD1⟩ := hB
        rw [ht] at hP1
        have hK1 := va_K.moved hvm.symm hK1
        try dsimp only at hw
        obtain ⟨hP, hD⟩ := va_join (wr := [(ar, .inl (tr, 8, .inl (fun _ => 0)))]) (w1 := [(h0, .inr (8, [.int 0, .ref am, .ref ad, .ref ab, .int 0, .int 224, .ref ar, .int 0, .int 0, .int 2, .int 0, .int 0, .int 0, .ref az, .ref ae, .ref ao, .ref an, .ref au, .int 0, .int 0, .int 0, .ref ap, .ref aw, .int 0, .int 0, .int 0, .int 0, .int 0]))]) hP hD [0] [1] rfl rfl (by decide) (by decide) hk1 hFc hP1 hD1
        have hK := (hK.sub (tys' := [(tr, .int)]) [0] rfl).app hK1
        generalize H1 = H at hP hS ⊢
        have hP : va_P (dC, dI) vwCl [(ar, .inl (tr, 8, .inl (fun _ => 0))), (h0, .inr (8, [.int 0, .ref am, .ref ad, .ref ab, .int 0, .int 224, .ref ar, .int 0, .int 0, .int 2, .int 0, .int 0, .int 0, .ref az, .ref ae, .ref ao, .ref an, .ref au, .int 0, .int 0, .int 0, .ref ap, .ref aw, .int 0, .int 0, .int 0, .int 0, .int 0]))] H := hP
        have hD : va_D A [(ar, .inl (tr, 8, .inl (fun _ => 0))), (h0, .inr (8, [.int 0, .ref am, .ref ad, .ref ab, .int 0, .int 224, .ref ar, .int 0, .int 0, .int 2, .int 0, .int 0, .int 0, .ref az, .ref ae, .ref ao, .ref an, .ref au, .int 0, .int 0, .int 0, .ref ap, .ref aw, .int 0, .int 0, .int 0, .int 0, .int 0]))] := hD
        have hK : va_K (dC, dI) vwCl [(tr, .int)] s := hK
        refine lv_aload_n hx hb dX9_start_35 rfl (lv_at hl 0 rfl) ?_
        refine va_get (D := (dC, dI)) (ci := 8) (v := .ref ar) (C := RX9) (T := TX9) (N := 28) hx hb hts (by decide +kernel) hown hK hP 1 rfl rfl 6 (by decide) (hts (.fieldLink RX9 19 "UnibusMachineModel" "reg" "[I") (by decide +kernel)) (fun _ h9 => h9) rfl dX9_start_36 ?_
        refine lv_bipush (v := 7) hx hb dX9_start_39 (by decide) ?_
        refine lv_iload_n hx hb dX9_start_41 rfl (lv_at hl 1 rfl) ?_
        refine va_iast (D := (dC, dI)) hx hb hK hP hD hS 0 0 rfl rfl (vp_in_iff.mpr (by decide)) dX9_start_42 (fun H locs hP hD hS => ?_)
        have hP : va_P (dC, dI) vwCl [(ar, .inl (tr, 8, .inl (upd (fun _ => 0) (7 : Int32).toNatClampNeg p0))), (h0, .inr (8, [.int 0, .ref am, .ref ad, .ref ab, .int 0, .int 224, .ref ar, .int 0, .int 0, .int 2, .int 0, .int 0, .int 0, .ref az, .ref ae, .ref ao, .ref an, .ref au, .int 0, .int 0, .int 0, .ref ap, .ref aw, .int 0, .int 0, .int 0, .int 0, .int 0]))] H := hP
        have hD : va_D A [(ar, .inl (tr, 8, .inl (upd (fun _ => 0) (7 : Int32).toNatClampNeg p0))), (h0, .inr (8, [.int 0, .ref am, .ref ad, .ref ab, .int 0, .int 224, .ref ar, .int 0, .int 0, .int 2, .int 0, .int 0, .int 0, .ref az, .ref ae, .ref ao, .ref an, .ref au, .int 0, .int 0, .int 0, .ref ap, .ref aw, .int 0, .int 0, .int 0, .int 0, .int 0]))] := hD
        refine lv_aload_n hx hb dX9_start_43 rfl (lv_at hl 0 rfl) ?_
        refine lv_iconst (v := 0) hx hb dX9_start_44 (by decide) ?_
        refine va_put (D := (dC, dI)) (ci := 8) (v := .int 0) (ty := .int) (C := RX9) (T := TX9) (N := 28) hx hb hts (by decide +kernel) tyX9 tyX9_ok nmX9 hown hK hP hD hS 1 rfl rfl 9 (by decide) (hts (.fieldLink RX9 22 "UnibusMachineModel" "state" "I") (by decide +kernel)) (fun _ h9 => h9) rfl (by decide +kernel) rfl rfl (Nat.le_of_ble_eq_true rfl) dX9_start_45 (fun H locs hP hD hS => ?_)
        have hP : va_P (dC, dI) vwCl [(ar, .inl (tr, 8, .inl (upd (fun _ => 0) (7 : Int32).toNatClampNeg p0))), (h0, .inr (8, [.int 0, .ref am, .ref ad, .ref ab, .int 0, .int 224, .ref ar, .int 0, .int 0, .int 0, .int 0, .int 0, .int 0, .ref az, .ref ae, .ref ao, .ref an, .ref au, .int 0, .int 0, .int 0, .ref ap, .ref aw, .int 0, .int 0, .int 0, .int 0, .int 0]))] H := hP
        have hD : va_D A [(ar, .inl (tr, 8, .inl (upd (fun _ => 0) (7 : Int32).toNatClampNeg p0))), (h0, .inr (8, [.int 0, .ref am, .ref ad, .ref ab, .int 0, .int 224, .ref ar, .int 0, .int 0, .int 0, .int 0, .int 0, .int 0, .ref az, .ref ae, .ref ao, .ref an, .ref au, .int 0, .int 0, .int 0, .ref ap, .ref aw, .int 0, .int 0, .int 0, .int 0, .int 0]))] := hD
        have hP9 := hP.sub (ws' := [(h0, .inr (8, [.int 0, .ref am, .ref ad, .ref ab, .int 0, .int 224, .ref ar, .int 0, .int 0, .int 0, .int 0, .int 0, .int 0, .ref az, .ref ae, .ref ao, .ref an, .ref au, .int 0, .int 0, .int 0, .ref ap, .ref aw, .int 0, .int 0, .int 0, .int 0, .int 0]))]) [1] rfl
        have hD9 := hD.sub (ws' := [(h0, .inr (8, [.int 0, .ref am, .ref ad, .ref ab, .int 0, .int 224, .ref ar, .int 0, .int 0, .int 0, .int 0, .int 0, .int 0, .ref az, .ref ae, .ref ao, .ref an, .ref au, .int 0, .int 0, .int 0, .ref ap, .ref aw, .int 0, .int 0, .int 0, .int 0, .int 0]))]) [1] (by decide) rfl
        have hK9 := hK.sub (tys' := []) [] rfl
        exact W.vret hx hb hr (fun t ht hW => ⟨⟨0, rfl, (by first | (exact Or.inl ⟨rfl, by omega⟩) | (exact Or.inr ⟨rfl, by omega⟩)), [.ref am, .ref ad, .ref ab, .int 0, .int 224, .ref ar, .int 0, .int 0, .int 0, .int 0, .int 0, .int 0, .ref az, .ref ae, .ref ao, .ref an, .ref au, .int 0, .int 0, .int 0, .ref ap, .ref aw, .int 0, .int 0, .int 0, .int 0, .int 0], by rw [ht]; exact hP9, va_K.moved hW.alike hK9, hD9⟩, hS.F ht⟩) hS.2.2 dX9_start_48
      · exact absurd c4 (by decide)
  · skip
    refine lv_if_eq (tgt := 12) hx hb dX9_start_5 (by decide) (fun c7 => ?_) (fun c7 => ?_)
    · skip
      refine lv_iconst (v := 1) hx hb dX9_start_12 (by decide) ?_
      refine va_put (D := (dC, dI)) (ci := 8) (v := .int 1) (ty := .int) (C := RX9) (T := TX9) (N := 28) hx hb hts (by decide +kernel) tyX9 tyX9_ok nmX9 hown hK hP hD hS 0 rfl rfl 0 (by decide) (hts (.fieldLink RX9 48 "UnibusMachineModel" "thrown" "I") (by decide +kernel)) (fun _ h9 => h9) rfl (by decide +kernel) rfl rfl (Nat.le_of_ble_eq_true rfl) dX9_start_13 (fun H locs hP hD hS => ?_)
      have hP : va_P (dC, dI) vwCl [(h0, .inr (8, [.int 1, .ref am, .ref ad, .ref ab, .int 0, .int 0, .ref ar, .int 0, .int 0, .int 2, .int 0, .int 0, .int 0, .ref az, .ref ae, .ref ao, .ref an, .ref au, .int 0, .int 0, .int 0, .ref ap, .ref aw, .int 0, .int 0, .int 0, .int 0, .int 0])), (ar, .inl (tr, 8, .inl (fun _ => 0)))] H := hP
      have hD : va_D A [(h0, .inr (8, [.int 1, .ref am, .ref ad, .ref ab, .int 0, .int 0, .ref ar, .int 0, .int 0, .int 2, .int 0, .int 0, .int 0, .ref az, .ref ae, .ref ao, .ref an, .ref au, .int 0, .int 0, .int 0, .ref ap, .ref aw, .int 0, .int 0, .int 0, .int 0, .int 0])), (ar, .inl (tr, 8, .inl (fun _ => 0)))] := hD
      refine lv_aload_n hx hb dX9_start_16 rfl (lv_at hl 0 rfl) ?_
      refine va_get (D := (dC, dI)) (ci := 8) (v := .int 1) (C := RX9) (T := TX9) (N := 28) hx hb hts (by decide +kernel) hown hK hP 0 rfl rfl 0 (by decide) (hts (.fieldLink RX9 48 "UnibusMachineModel" "thrown" "I") (by decide +kernel)) (fun _ h9 => h9) rfl dX9_start_17 ?_
      refine lv_if_le (tgt := 24) hx hb dX9_start_20 (by decide) (fun c8 => ?_) (fun c8 => ?_)
      · exact absurd c8 (by decide)
      · skip
        have hP9 := hP.sub (ws' := [(h0, .inr (8, [.int 1, .ref am, .ref ad, .ref ab, .int 0, .int 0, .ref ar, .int 0, .int 0, .int 2, .int 0, .int 0, .int 0, .ref az, .ref ae, .ref ao, .ref an, .ref au, .int 0, .int 0, .int 0, .ref ap, .ref aw, .int 0, .int 0, .int 0, .int 0, .int 0]))]) [0] rfl
        have hD9 := hD.sub (ws' := [(h0, .inr (8, [.int 1, .ref am, .ref ad, .ref ab, .int 0, .int 0, .ref ar, .int 0, .int 0, .int 2, .int 0, .int 0, .int 0, .ref az, .ref ae, .ref ao, .ref an, .ref au, .int 0, .int 0, .int 0, .ref ap, .ref aw, .int 0, .int 0, .int 0, .int 0, .int 0]))]) [0] (by decide) rfl
        have hK9 := hK.sub (tys' := []) [] rfl
        exact W.vret hx hb hr (fun t ht hW => ⟨⟨1, rfl, (by first | (exact Or.inl ⟨rfl, by omega⟩) | (exact Or.inr ⟨rfl, by omega⟩)), [.ref am, .ref ad, .ref ab, .int 0, .int 0, .ref ar, .int 0, .int 0, .int 2, .int 0, .int 0, .int 0, .ref az, .ref ae, .ref ao, .ref an, .ref au, .int 0, .int 0, .int 0, .ref ap, .ref aw, .int 0, .int 0, .int 0, .int 0, .int 0], by rw [ht]; exact hP9, va_K.moved hW.alike hK9, hD9⟩, hS.F ht⟩) hS.2.2 dX9_start_23
    · exact absurd c7 (by decide)
set_option maxHeartbeats 4000000 in
set_option maxRecDepth 100000 in
theorem c_mrun (l : Launch) (dC : Nat → ClassId) (dI : Nat → Nat → Nat) (h0 : Nat) (am : Nat) (ad : Nat) (ab : Nat) (ar : Nat) (az : Nat) (ae : Nat) (ao : Nat) (an : Nat) (au : Nat) (ap : Nat) (aw : Nat) (p0 : Int32) (sz : Nat) : Met l yX9_run wsX9_run ({ frames := 0, cells := 0, slots := 0, locals := 0 } : Room) (va_Pc [.ref h0, .int p0] (fun U => U.heap.size = sz ∧ va_P (dC, dI) vwCl [(h0, .inr (8, [.int 0, .ref am, .ref ad, .ref ab, .int 0, .int 0, .ref ar, .int 0, .int 0, .int 2, .int 0, .int 0, .int 0, .ref az, .ref ae, .ref ao, .ref an, .ref au, .int 0, .int 0, .int 0, .ref ap, .ref aw, .int 0, .int 0, .int 0, .int 0, .int 0]))] U.heap ∧ va_K (dC, dI) vwCl [] U ∧ va_D (fun _ => True) [(h0, .inr (8, [.int 0, .ref am, .ref ad, .ref ab, .int 0, .int 0, .ref ar, .int 0, .int 0, .int 2, .int 0, .int 0, .int 0, .ref az, .ref ae, .ref ao, .ref an, .ref au, .int 0, .int 0, .int 0, .ref ap, .ref aw, .int 0, .int 0, .int 0, .int 0, .int 0]))])) (va_Qi (fun (r : Int32) (u : Int32) => r = 0 ∧ ((u = 2 ∧ (1 ≤ p0.toInt ∧ p0.toInt ≤ 40)) ∨ (u = 1 ∧ ¬ (1 ≤ p0.toInt ∧ p0.toInt ≤ 40)))) (fun (u : Int32) (t : State) => ∃ (fs : List Value), va_P (dC, dI) vwCl [(h0, .inr (8, .int u :: fs))] t.heap ∧ va_K (dC, dI) vwCl [] t ∧ va_D (va_A [(h0, .inr (8, [.int 0, .ref am, .ref ad, .ref ab, .int 0, .int 0, .ref ar, .int 0, .int 0, .int 2, .int 0, .int 0, .int 0, .ref az, .ref ae, .ref ao, .ref an, .ref au, .int 0, .int 0, .int 0, .ref ap, .ref aw, .int 0, .int 0, .int 0, .int 0, .int 0]))] sz) [(h0, .inr (8, .int u :: fs))]) (va_A [(h0, .inr (8, [.int 0, .ref am, .ref ad, .ref ab, .int 0, .int 0, .ref ar, .int 0, .int 0, .int 2, .int 0, .int 0, .int 0, .ref az, .ref ae, .ref ao, .ref an, .ref au, .int 0, .int 0, .int 0, .ref ap, .ref aw, .int 0, .int 0, .int 0, .int 0, .int 0]))] sz)) 0 0 (va_A [(h0, .inr (8, [.int 0, .ref am, .ref ad, .ref ab, .int 0, .int 0, .ref ar, .int 0, .int 0, .int 2, .int 0, .int 0, .int 0, .ref az, .ref ae, .ref ao, .ref an, .ref au, .int 0, .int 0, .int 0, .ref ap, .ref aw, .int 0, .int 0, .int 0, .int 0, .int 0]))] sz) := by
  refine Met.ofW (cc := cX9_run) (maxL := 3) (ret := (some .int)) (by decide) rfl ?_
  intro p e s m args below meth c s₁ B hml hv
  obtain ⟨rfl, hsz, hP, hK, hD0⟩ := hv
  have hx := B.exec
  have hb := B.bytes
  have hr := B.returns
  have hts := atoms_spec (ws := wsX9_run) B.pre
  have hown : s.vm.findClass RX9 = some m.cls := findClass_of_methodNamed B.named
  have hlocks := B.notSynchronized
  subst hsz
  have hD := hD0.self (sz := s.heap.size)
  generalize hAe : va_A [(h0, .inr (8, [.int 0, .ref am, .ref ad, .ref ab, .int 0, .int 0, .ref ar, .int 0, .int 0, .int 2, .int 0, .int 0, .int 0, .ref az, .ref ae, .ref ao, .ref an, .ref au, .int 0, .int 0, .int 0, .ref ap, .ref aw, .int 0, .int 0, .int 0, .int 0, .int 0]))] s.heap.size = A at hD ⊢
  have hA : ∀ q : Nat, s.heap.size ≤ q → A q := fun q h => by rw [← hAe]; exact Or.inr h
  have hS0 : ∀ G : Heap, s.heap = G → va_S A s.heap G [] := fun G h => by subst h; exact va_S.rf
  generalize hHe : s.heap = H at hP ⊢
  have hS := hS0 H hHe
  have hP : va_P (dC, dI) vwCl [(h0, .inr (8, [.int 0, .ref am, .ref ad, .ref ab, .int 0, .int 0, .ref ar, .int 0, .int 0, .int 2, .int 0, .int 0, .int 0, .ref az, .ref ae, .ref ao, .ref an, .ref au, .int 0, .int 0, .int 0, .ref ap, .ref aw, .int 0, .int 0, .int 0, .int 0, .int 0]))] H := hP
  have hD : va_D A [(h0, .inr (8, [.int 0, .ref am, .ref ad, .ref ab, .int 0, .int 0, .ref ar, .int 0, .int 0, .int 2, .int 0, .int 0, .int 0, .ref az, .ref ae, .ref ao, .ref an, .ref au, .int 0, .int 0, .int 0, .ref ap, .ref aw, .int 0, .int 0, .int 0, .int 0, .int 0]))] := hD
  have hK : va_K (dC, dI) vwCl [] s := hK
  have hl := lv_entry ([.ref h0, .int p0]) (n := 3) (Nat.le_of_ble_eq_true rfl)
  rw [lg_entry_eq]
  generalize (lg_sl ([.ref h0, .int p0]) ++ List.replicate (3 - (lg_sl ([.ref h0, .int p0])).length) Slot.unset).toArray = ls at hl ⊢
  have hl : lv_has ls 3 [(0, .ref h0), (1, .int p0)] := hl
  have kk0 : (0 : Int32).toInt = 0 := by decide
  have kk1 : (1 : Int32).toInt = 1 := by decide
  have kk40 : (40 : Int32).toInt = 40 := by decide
  refine lv_aload_n hx hb dX9_run_0 rfl (lv_at hl 0 rfl) ?_
  refine lv_iload_n hx hb dX9_run_1 rfl (lv_at hl 1 rfl) ?_
  refine lv_iconst (v := 1) hx hb dX9_run_2 (by decide) ?_
  refine lv_icmp_lt (tgt := 12) hx hb dX9_run_3 (by decide) (fun c1 => ?_) (fun c1 => ?_)
  · have c1 := fz_lt.mp c1
    have kk1 : (1 : Int32).toInt = 1 := by decide
    refine lv_iconst (v := 1) hx hb dX9_run_12 (by decide) ?_
    refine lv_goto (tgt := 29) hx hb dX9_run_13 (by decide) ?_
    refine va_put (D := (dC, dI)) (ci := 8) (v := .int 1) (ty := .int) (C := RX9) (T := TX9) (N := 28) hx hb hts (by decide +kernel) tyX9 tyX9_ok nmX9 hown hK hP hD hS 0 rfl rfl 0 (by decide) (hts (.fieldLink RX9 48 "UnibusMachineModel" "thrown" "I") (by decide +kernel)) (fun _ h9 => h9) rfl (by decide +kernel) rfl rfl (Nat.le_of_ble_eq_true rfl) dX9_run_29 (fun H locs hP hD hS => ?_)
    have hP : va_P (dC, dI) vwCl [(h0, .inr (8, [.int 1, .ref am, .ref ad, .ref ab, .int 0, .int 0, .ref ar, .int 0, .int 0, .int 2, .int 0, .int 0, .int 0, .ref az, .ref ae, .ref ao, .ref an, .ref au, .int 0, .int 0, .int 0, .ref ap, .ref aw, .int 0, .int 0, .int 0, .int 0, .int 0]))] H := hP
    have hD : va_D A [(h0, .inr (8, [.int 1, .ref am, .ref ad, .ref ab, .int 0, .int 0, .ref ar, .int 0, .int 0, .int 2, .int 0, .int 0, .int 0, .ref az, .ref ae, .ref ao, .ref an, .ref au, .int 0, .int 0, .int 0, .ref ap, .ref aw, .int 0, .int 0, .int 0, .int 0, .int 0]))] := hD
    refine lv_iconst (v := 0) hx hb dX9_run_32 (by decide) ?_
    refine lv_istore_n (lv' := [(2, .int 0), (0, .ref h0), (1, .int p0)]) hx hb dX9_run_33 rfl hl (by decide) rfl (fun ls hl => ?_)
    refine lv_iload_n hx hb dX9_run_34 rfl (lv_at hl 0 rfl) ?_
    refine lv_iload_n hx hb dX9_run_35 rfl (lv_at hl 2 rfl) ?_
    refine lv_icmp_ge (tgt := 103) hx hb dX9_run_36 (by decide) (fun c2 => ?_) (fun c2 => ?_)
    · have c2 := fz_le.mp c2
      have kk0 : (0 : Int32).toInt = 0 := by decide
      refine lv_iload_n hx hb dX9_run_103 rfl (lv_at hl 0 rfl) ?_
      have hP9 := hP.sub (ws' := [(h0, .inr (8, [.int 1, .ref am, .ref ad, .ref ab, .int 0, .int 0, .ref ar, .int 0, .int 0, .int 2, .int 0, .int 0, .int 0, .ref az, .ref ae, .ref ao, .ref an, .ref au, .int 0, .int 0, .int 0, .ref ap, .ref aw, .int 0, .int 0, .int 0, .int 0, .int 0]))]) [0] rfl
      have hD9 := hD.sub (ws' := [(h0, .inr (8, [.int 1, .ref am, .ref ad, .ref ab, .int 0, .int 0, .ref ar, .int 0, .int 0, .int 2, .int 0, .int 0, .int 0, .ref az, .ref ae, .ref ao, .ref an, .ref au, .int 0, .int 0, .int 0, .ref ap, .ref aw, .int 0, .int 0, .int 0, .int 0, .int 0]))]) [0] (by decide) rfl
      have hK9 := hK.sub (tys' := []) [] rfl
      exact W.iret (v := 0) hx hb hr (fun t ht hW => ⟨⟨0, 1, rfl, ⟨rfl, (by first | (exact Or.inl ⟨rfl, by omega⟩) | (exact Or.inr ⟨rfl, by omega⟩))⟩, [.ref am, .ref ad, .ref ab, .int 0, .int 0, .ref ar, .int 0, .int 0, .int 2, .int 0, .int 0, .int 0, .ref az, .ref ae, .ref ao, .ref an, .ref au, .int 0, .int 0, .int 0, .ref ap, .ref aw, .int 0, .int 0, .int 0, .int 0, .int 0], by rw [ht]; exact hP9, va_K.moved hW.alike hK9, hD9⟩, hS.F ht⟩) hS.2.2 dX9_run_104
    · have c2 := fz_nle.mp c2
      have kk0 : (0 : Int32).toInt = 0 := by decide
      refine lv_aload_n hx hb dX9_run_39 rfl (lv_at hl 1 rfl) ?_
      refine va_get (D := (dC, dI)) (ci := 8) (v := .int 2) (C := RX9) (T := TX9) (N := 28) hx hb hts (by decide +kernel) hown hK hP 0 rfl rfl 9 (by decide) (hts (.fieldLink RX9 22 "UnibusMachineModel" "state" "I") (by decide +kernel)) (fun _ h9 => h9) rfl dX9_run_40 ?_
      refine lv_iconst (v := 2) hx hb dX9_run_43 (by decide) ?_
      refine lv_icmp_ge (tgt := 103) hx hb dX9_run_44 (by decide) (fun c3 => ?_) (fun c3 => ?_)
      · skip
        refine lv_iload_n hx hb dX9_run_103 rfl (lv_at hl 0 rfl) ?_
        have hP9 := hP.sub (ws' := [(h0, .inr (8, [.int 1, .ref am, .ref ad, .ref ab, .int 0, .int 0, .ref ar, .int 0, .int 0, .int 2, .int 0, .int 0, .int 0, .ref az, .ref ae, .ref ao, .ref an, .ref au, .int 0, .int 0, .int 0, .ref ap, .ref aw, .int 0, .int 0, .int 0, .int 0, .int 0]))]) [0] rfl
        have hD9 := hD.sub (ws' := [(h0, .inr (8, [.int 1, .ref am, .ref ad, .ref ab, .int 0, .int 0, .ref ar, .int 0, .int 0, .int 2, .int 0, .int 0, .int 0, .ref az, .ref ae, .ref ao, .ref an, .ref au, .int 0, .int 0, .int 0, .ref ap, .ref aw, .int 0, .int 0, .int 0, .int 0, .int 0]))]) [0] (by decide) rfl
        have hK9 := hK.sub (tys' := []) [] rfl
        exact W.iret (v := 0) hx hb hr (fun t ht hW => ⟨⟨0, 1, rfl, ⟨rfl, (by first | (exact Or.inl ⟨rfl, by omega⟩) | (exact Or.inr ⟨rfl, by omega⟩))⟩, [.ref am, .ref ad, .ref ab, .int 0, .int 0, .ref ar, .int 0, .int 0, .int 2, .int 0, .int 0, .int 0, .ref az, .ref ae, .ref ao, .ref an, .ref au, .int 0, .int 0, .int 0, .ref ap, .ref aw, .int 0, .int 0, .int 0, .int 0, .int 0], by rw [ht]; exact hP9, va_K.moved hW.alike hK9, hD9⟩, hS.F ht⟩) hS.2.2 dX9_run_104
      · exact absurd c3 (by decide)
  · have c1 := fz_nlt.mp c1
    have kk1 : (1 : Int32).toInt = 1 := by decide
    refine lv_iload_n hx hb dX9_run_6 rfl (lv_at hl 1 rfl) ?_
    refine lv_bipush (v := 40) hx hb dX9_run_7 (by decide) ?_
    refine lv_icmp_le (tgt := 16) hx hb dX9_run_9 (by decide) (fun c4 => ?_) (fun c4 => ?_)
    · have c4 := fz_le.mp c4
      have kk40 : (40 : Int32).toInt = 40 := by decide
      refine lv_aload_n hx hb dX9_run_16 rfl (lv_at hl 0 rfl) ?_
      refine va_get (D := (dC, dI)) (ci := 8) (v := .int 2) (C := RX9) (T := TX9) (N := 28) hx hb hts (by decide +kernel) hown hK hP 0 rfl rfl 9 (by decide) (hts (.fieldLink RX9 22 "UnibusMachineModel" "state" "I") (by decide +kernel)) (fun _ h9 => h9) rfl dX9_run_17 ?_
      refine lv_iconst (v := 1) hx hb dX9_run_20 (by decide) ?_
      refine lv_icmp_le (tgt := 28) hx hb dX9_run_21 (by decide) (fun c5 => ?_) (fun c5 => ?_)
      · exact absurd c5 (by decide)
      · skip
        refine lv_iconst (v := 2) hx hb dX9_run_24 (by decide) ?_
        refine lv_goto (tgt := 29) hx hb dX9_run_25 (by decide) ?_
        refine va_put (D := (dC, dI)) (ci := 8) (v := .int 2) (ty := .int) (C := RX9) (T := TX9) (N := 28) hx hb hts (by decide +kernel) tyX9 tyX9_ok nmX9 hown hK hP hD hS 0 rfl rfl 0 (by decide) (hts (.fieldLink RX9 48 "UnibusMachineModel" "thrown" "I") (by decide +kernel)) (fun _ h9 => h9) rfl (by decide +kernel) rfl rfl (Nat.le_of_ble_eq_true rfl) dX9_run_29 (fun H locs hP hD hS => ?_)
        have hP : va_P (dC, dI) vwCl [(h0, .inr (8, [.int 2, .ref am, .ref ad, .ref ab, .int 0, .int 0, .ref ar, .int 0, .int 0, .int 2, .int 0, .int 0, .int 0, .ref az, .ref ae, .ref ao, .ref an, .ref au, .int 0, .int 0, .int 0, .ref ap, .ref aw, .int 0, .int 0, .int 0, .int 0, .int 0]))] H := hP
        have hD : va_D A [(h0, .inr (8, [.int 2, .ref am, .ref ad, .ref ab, .int 0, .int 0, .ref ar, .int 0, .int 0, .int 2, .int 0, .int 0, .int 0, .ref az, .ref ae, .ref ao, .ref an, .ref au, .int 0, .int 0, .int 0, .ref ap, .ref aw, .int 0, .int 0, .int 0, .int 0, .int 0]))] := hD
        refine lv_iconst (v := 0) hx hb dX9_run_32 (by decide) ?_
        refine lv_istore_n (lv' := [(2, .int 0), (0, .ref h0), (1, .int p0)]) hx hb dX9_run_33 rfl hl (by decide) rfl (fun ls hl => ?_)
        refine lv_iload_n hx hb dX9_run_34 rfl (lv_at hl 0 rfl) ?_
        refine lv_iload_n hx hb dX9_run_35 rfl (lv_at hl 2 rfl) ?_
        refine lv_icmp_ge (tgt := 103) hx hb dX9_run_36 (by decide) (fun c6 => ?_) (fun c6 => ?_)
        · have c6 := fz_le.mp c6
          have kk0 : (0 : Int32).toInt = 0 := by decide
          refine lv_iload_n hx hb dX9_run_103 rfl (lv_at hl 0 rfl) ?_
          have hP9 := hP.sub (ws' := [(h0, .inr (8, [.int 2, .ref am, .ref ad, .ref ab, .int 0, .int 0, .ref ar, .int 0, .int 0, .int 2, .int 0, .int 0, .int 0, .ref az, .ref ae, .ref ao, .ref an, .ref au, .int 0, .int 0, .int 0, .ref ap, .ref aw, .int 0, .int 0, .int 0, .int 0, .int 0]))]) [0] rfl
          have hD9 := hD.sub (ws' := [(h0, .inr (8, [.int 2, .ref am, .ref ad, .ref ab, .int 0, .int 0, .ref ar, .int 0, .int 0, .int 2, .int 0, .int 0, .int 0, .ref az, .ref ae, .ref ao, .ref an, .ref au, .int 0, .int 0, .int 0, .ref ap, .ref aw, .int 0, .int 0, .int 0, .int 0, .int 0]))]) [0] (by decide) rfl
          have hK9 := hK.sub (tys' := []) [] rfl
          exact W.iret (v := 0) hx hb hr (fun t ht hW => ⟨⟨0, 2, rfl, ⟨rfl, (by first | (exact Or.inl ⟨rfl, by omega⟩) | (exact Or.inr ⟨rfl, by omega⟩))⟩, [.ref am, .ref ad, .ref ab, .int 0, .int 0, .ref ar, .int 0, .int 0, .int 2, .int 0, .int 0, .int 0, .ref az, .ref ae, .ref ao, .ref an, .ref au, .int 0, .int 0, .int 0, .ref ap, .ref aw, .int 0, .int 0, .int 0, .int 0, .int 0], by rw [ht]; exact hP9, va_K.moved hW.alike hK9, hD9⟩, hS.F ht⟩) hS.2.2 dX9_run_104
        · have c6 := fz_nle.mp c6
          have kk0 : (0 : Int32).toInt = 0 := by decide
          refine lv_aload_n hx hb dX9_run_39 rfl (lv_at hl 1 rfl) ?_
          refine va_get (D := (dC, dI)) (ci := 8) (v := .int 2) (C := RX9) (T := TX9) (N := 28) hx hb hts (by decide +kernel) hown hK hP 0 rfl rfl 9 (by decide) (hts (.fieldLink RX9 22 "UnibusMachineModel" "state" "I") (by decide +kernel)) (fun _ h9 => h9) rfl dX9_run_40 ?_
          refine lv_iconst (v := 2) hx hb dX9_run_43 (by decide) ?_
          refine lv_icmp_ge (tgt := 103) hx hb dX9_run_44 (by decide) (fun c7 => ?_) (fun c7 => ?_)
          · skip
            refine lv_iload_n hx hb dX9_run_103 rfl (lv_at hl 0 rfl) ?_
            have hP9 := hP.sub (ws' := [(h0, .inr (8, [.int 2, .ref am, .ref ad, .ref ab, .int 0, .int 0, .ref ar, .int 0, .int 0, .int 2, .int 0, .int 0, .int 0, .ref az, .ref ae, .ref ao, .ref an, .ref au, .int 0, .int 0, .int 0, .ref ap, .ref aw, .int 0, .int 0, .int 0, .int 0, .int 0]))]) [0] rfl
            have hD9 := hD.sub (ws' := [(h0, .inr (8, [.int 2, .ref am, .ref ad, .ref ab, .int 0, .int 0, .ref ar, .int 0, .int 0, .int 2, .int 0, .int 0, .int 0, .ref az, .ref ae, .ref ao, .ref an, .ref au, .int 0, .int 0, .int 0, .ref ap, .ref aw, .int 0, .int 0, .int 0, .int 0, .int 0]))]) [0] (by decide) rfl
            have hK9 := hK.sub (tys' := []) [] rfl
            exact W.iret (v := 0) hx hb hr (fun t ht hW => ⟨⟨0, 2, rfl, ⟨rfl, (by first | (exact Or.inl ⟨rfl, by omega⟩) | (exact Or.inr ⟨rfl, by omega⟩))⟩, [.ref am, .ref ad, .ref ab, .int 0, .int 0, .ref ar, .int 0, .int 0, .int 2, .int 0, .int 0, .int 0, .ref az, .ref ae, .ref ao, .ref an, .ref au, .int 0, .int 0, .int 0, .ref ap, .ref aw, .int 0, .int 0, .int 0, .int 0, .int 0], by rw [ht]; exact hP9, va_K.moved hW.alike hK9, hD9⟩, hS.F ht⟩) hS.2.2 dX9_run_104
          · exact absurd c7 (by decide)
    · have c4 := fz_nle.mp c4
      have kk40 : (40 : Int32).toInt = 40 := by decide
      refine lv_iconst (v := 1) hx hb dX9_run_12 (by decide) ?_
      refine lv_goto (tgt := 29) hx hb dX9_run_13 (by decide) ?_
      refine va_put (D := (dC, dI)) (ci := 8) (v := .int 1) (ty := .int) (C := RX9) (T := TX9) (N := 28) hx hb hts (by decide +kernel) tyX9 tyX9_ok nmX9 hown hK hP hD hS 0 rfl rfl 0 (by decide) (hts (.fieldLink RX9 48 "UnibusMachineModel" "thrown" "I") (by decide +kernel)) (fun _ h9 => h9) rfl (by decide +kernel) rfl rfl (Nat.le_of_ble_eq_true rfl) dX9_run_29 (fun H locs hP hD hS => ?_)
      have hP : va_P (dC, dI) vwCl [(h0, .inr (8, [.int 1, .ref am, .ref ad, .ref ab, .int 0, .int 0, .ref ar, .int 0, .int 0, .int 2, .int 0, .int 0, .int 0, .ref az, .ref ae, .ref ao, .ref an, .ref au, .int 0, .int 0, .int 0, .ref ap, .ref aw, .int 0, .int 0, .int 0, .int 0, .int 0]))] H := hP
      have hD : va_D A [(h0, .inr (8, [.int 1, .ref am, .ref ad, .ref ab, .int 0, .int 0, .ref ar, .int 0, .int 0, .int 2, .int 0, .int 0, .int 0, .ref az, .ref ae, .ref ao, .ref an, .ref au, .int 0, .int 0, .int 0, .ref ap, .ref aw, .int 0, .int 0, .int 0, .int 0, .int 0]))] := hD
      refine lv_iconst (v := 0) hx hb dX9_run_32 (by decide) ?_
      refine lv_istore_n (lv' := [(2, .int 0), (0, .ref h0), (1, .int p0)]) hx hb dX9_run_33 rfl hl (by decide) rfl (fun ls hl => ?_)
      refine lv_iload_n hx hb dX9_run_34 rfl (lv_at hl 0 rfl) ?_
      refine lv_iload_n hx hb dX9_run_35 rfl (lv_at hl 2 rfl) ?_
      refine lv_icmp_ge (tgt := 103) hx hb dX9_run_36 (by decide) (fun c8 => ?_) (fun c8 => ?_)
      · have c8 := fz_le.mp c8
        have kk0 : (0 : Int32).toInt = 0 := by decide
        refine lv_iload_n hx hb dX9_run_103 rfl (lv_at hl 0 rfl) ?_
        have hP9 := hP.sub (ws' := [(h0, .inr (8, [.int 1, .ref am, .ref ad, .ref ab, .int 0, .int 0, .ref ar, .int 0, .int 0, .int 2, .int 0, .int 0, .int 0, .ref az, .ref ae, .ref ao, .ref an, .ref au, .int 0, .int 0, .int 0, .ref ap, .ref aw, .int 0, .int 0, .int 0, .int 0, .int 0]))]) [0] rfl
        have hD9 := hD.sub (ws' := [(h0, .inr (8, [.int 1, .ref am, .ref ad, .ref ab, .int 0, .int 0, .ref ar, .int 0, .int 0, .int 2, .int 0, .int 0, .int 0, .ref az, .ref ae, .ref ao, .ref an, .ref au, .int 0, .int 0, .int 0, .ref ap, .ref aw, .int 0, .int 0, .int 0, .int 0, .int 0]))]) [0] (by decide) rfl
        have hK9 := hK.sub (tys' := []) [] rfl
        exact W.iret (v := 0) hx hb hr (fun t ht hW => ⟨⟨0, 1, rfl, ⟨rfl, (by first | (exact Or.inl ⟨rfl, by omega⟩) | (exact Or.inr ⟨rfl, by omega⟩))⟩, [.ref am, .ref ad, .ref ab, .int 0, .int 0, .ref ar, .int 0, .int 0, .int 2, .int 0, .int 0, .int 0, .ref az, .ref ae, .ref ao, .ref an, .ref au, .int 0, .int 0, .int 0, .ref ap, .ref aw, .int 0, .int 0, .int 0, .int 0, .int 0], by rw [ht]; exact hP9, va_K.moved hW.alike hK9, hD9⟩, hS.F ht⟩) hS.2.2 dX9_run_104
      · have c8 := fz_nle.mp c8
        have kk0 : (0 : Int32).toInt = 0 := by decide
        refine lv_aload_n hx hb dX9_run_39 rfl (lv_at hl 1 rfl) ?_
        refine va_get (D := (dC, dI)) (ci := 8) (v := .int 2) (C := RX9) (T := TX9) (N := 28) hx hb hts (by decide +kernel) hown hK hP 0 rfl rfl 9 (by decide) (hts (.fieldLink RX9 22 "UnibusMachineModel" "state" "I") (by decide +kernel)) (fun _ h9 => h9) rfl dX9_run_40 ?_
        refine lv_iconst (v := 2) hx hb dX9_run_43 (by decide) ?_
        refine lv_icmp_ge (tgt := 103) hx hb dX9_run_44 (by decide) (fun c9 => ?_) (fun c9 => ?_)
        · skip
          refine lv_iload_n hx hb dX9_run_103 rfl (lv_at hl 0 rfl) ?_
          have hP9 := hP.sub (ws' := [(h0, .inr (8, [.int 1, .ref am, .ref ad, .ref ab, .int 0, .int 0, .ref ar, .int 0, .int 0, .int 2, .int 0, .int 0, .int 0, .ref az, .ref ae, .ref ao, .ref an, .ref au, .int 0, .int 0, .int 0, .ref ap, .ref aw, .int 0, .int 0, .int 0, .int 0, .int 0]))]) [0] rfl
          have hD9 := hD.sub (ws' := [(h0, .inr (8, [.int 1, .ref am, .ref ad, .ref ab, .int 0, .int 0, .ref ar, .int 0, .int 0, .int 2, .int 0, .int 0, .int 0, .ref az, .ref ae, .ref ao, .ref an, .ref au, .int 0, .int 0, .int 0, .ref ap, .ref aw, .int 0, .int 0, .int 0, .int 0, .int 0]))]) [0] (by decide) rfl
          have hK9 := hK.sub (tys' := []) [] rfl
          exact W.iret (v := 0) hx hb hr (fun t ht hW => ⟨⟨0, 1, rfl, ⟨rfl, (by first | (exact Or.inl ⟨rfl, by omega⟩) | (exact Or.inr ⟨rfl, by omega⟩))⟩, [.ref am, .ref ad, .ref ab, .int 0, .int 0, .ref ar, .int 0, .int 0, .int 2, .int 0, .int 0, .int 0, .ref az, .ref ae, .ref ao, .ref an, .ref au, .int 0, .int 0, .int 0, .ref ap, .ref aw, .int 0, .int 0, .int 0, .int 0, .int 0], by rw [ht]; exact hP9, va_K.moved hW.alike hK9, hD9⟩, hS.F ht⟩) hS.2.2 dX9_run_104
        · exact absurd c9 (by decide)
set_option maxHeartbeats 4000000 in
set_option maxRecDepth 100000 in
theorem c_mkey (l : Launch) (dC : Nat → ClassId) (dI : Nat → Nat → Nat) (h0 : Nat) (am : Nat) (ad : Nat) (ab : Nat) (ar : Nat) (az : Nat) (ae : Nat) (ao : Nat) (an : Nat) (au : Nat) (ap : Nat) (aw : Nat) (tz : ClassId) (p0 : Int32) (sz : Nat) : Met l yX9_key wsX9_key ({ frames := 1, cells := 0, slots := 0, locals := 21 } : Room) (va_Pc [.ref h0, .int p0] (fun U => U.heap.size = sz ∧ va_P (dC, dI) vwCl [(h0, .inr (8, [.int 0, .ref am, .ref ad, .ref ab, .int 0, .int 0, .ref ar, .int 0, .int 0, .int 2, .int 0, .int 0, .int 0, .ref az, .ref ae, .ref ao, .ref an, .ref au, .int 0, .int 0, .int 0, .ref ap, .ref aw, .int 0, .int 0, .int 0, .int 0, .int 0])), (az, .inl (tz, 3, .inl rdy))] U.heap ∧ va_K (dC, dI) vwCl [(tz, .boolean)] U ∧ va_D (fun _ => True) [(h0, .inr (8, [.int 0, .ref am, .ref ad, .ref ab, .int 0, .int 0, .ref ar, .int 0, .int 0, .int 2, .int 0, .int 0, .int 0, .ref az, .ref ae, .ref ao, .ref an, .ref au, .int 0, .int 0, .int 0, .ref ap, .ref aw, .int 0, .int 0, .int 0, .int 0, .int 0])), (az, .inl (tz, 3, .inl rdy))])) (va_Qv (fun (u : Int32) => (u = 0 ∧ (0 ≤ p0.toInt ∧ p0.toInt ≤ 255)) ∨ (u = 1 ∧ ¬ (0 ≤ p0.toInt ∧ p0.toInt ≤ 255))) (fun (u : Int32) (t : State) => ∃ (fs : List Value), va_P (dC, dI) vwCl [(h0, .inr (8, .int u :: fs))] t.heap ∧ va_K (dC, dI) vwCl [] t ∧ va_D (va_A [(h0, .inr (8, [.int 0, .ref am, .ref ad, .ref ab, .int 0, .int 0, .ref ar, .int 0, .int 0, .int 2, .int 0, .int 0, .int 0, .ref az, .ref ae, .ref ao, .ref an, .ref au, .int 0, .int 0, .int 0, .ref ap, .ref aw, .int 0, .int 0, .int 0, .int 0, .int 0])), (az, .inl (tz, 3, .inl rdy))] sz) [(h0, .inr (8, .int u :: fs))]) (va_A [(h0, .inr (8, [.int 0, .ref am, .ref ad, .ref ab, .int 0, .int 0, .ref ar, .int 0, .int 0, .int 2, .int 0, .int 0, .int 0, .ref az, .ref ae, .ref ao, .ref an, .ref au, .int 0, .int 0, .int 0, .ref ap, .ref aw, .int 0, .int 0, .int 0, .int 0, .int 0])), (az, .inl (tz, 3, .inl rdy))] sz)) 0 0 (va_A [(h0, .inr (8, [.int 0, .ref am, .ref ad, .ref ab, .int 0, .int 0, .ref ar, .int 0, .int 0, .int 2, .int 0, .int 0, .int 0, .ref az, .ref ae, .ref ao, .ref an, .ref au, .int 0, .int 0, .int 0, .ref ap, .ref aw, .int 0, .int 0, .int 0, .int 0, .int 0])), (az, .inl (tz, 3, .inl rdy))] sz) := by
  refine Met.ofW (cc := cX9_key) (maxL := 2) (ret := none) (by decide) rfl ?_
  intro p e s m args below meth c s₁ B hml hv
  obtain ⟨rfl, hsz, hP, hK, hD0⟩ := hv
  have hx := B.exec
  have hb := B.bytes
  have hr := B.returns
  have hts := atoms_spec (ws := wsX9_key) B.pre
  have hown : s.vm.findClass RX9 = some m.cls := findClass_of_methodNamed B.named
  have hlocks := B.notSynchronized
  subst hsz
  have hD := hD0.self (sz := s.heap.size)
  generalize hAe : va_A [(h0, .inr (8, [.int 0, .ref am, .ref ad, .ref ab, .int 0, .int 0, .ref ar, .int 0, .int 0, .int 2, .int 0, .int 0, .int 0, .ref az, .ref ae, .ref ao, .ref an, .ref au, .int 0, .int 0, .int 0, .ref ap, .ref aw, .int 0, .int 0, .int 0, .int 0, .int 0])), (az, .inl (tz, 3, .inl rdy))] s.heap.size = A at hD ⊢
  have hA : ∀ q : Nat, s.heap.size ≤ q → A q := fun q h => by rw [← hAe]; exact Or.inr h
  have hS0 : ∀ G : Heap, s.heap = G → va_S A s.heap G [] := fun G h => by subst h; exact va_S.rf
  generalize hHe : s.heap = H at hP ⊢
  have hS := hS0 H hHe
  have hP : va_P (dC, dI) vwCl [(h0, .inr (8, [.int 0, .ref am, .ref ad, .ref ab, .int 0, .int 0, .ref ar, .int 0, .int 0, .int 2, .int 0, .int 0, .int 0, .ref az, .ref ae, .ref ao, .ref an, .ref au, .int 0, .int 0, .int 0, .ref ap, .ref aw, .int 0, .int 0, .int 0, .int 0, .int 0])), (az, .inl (tz, 3, .inl rdy))] H := hP
  have hD : va_D A [(h0, .inr (8, [.int 0, .ref am, .ref ad, .ref ab, .int 0, .int 0, .ref ar, .int 0, .int 0, .int 2, .int 0, .int 0, .int 0, .ref az, .ref ae, .ref ao, .ref an, .ref au, .int 0, .int 0, .int 0, .ref ap, .ref aw, .int 0, .int 0, .int 0, .int 0, .int 0])), (az, .inl (tz, 3, .inl rdy))] := hD
  have hK : va_K (dC, dI) vwCl [(tz, .boolean)] s := hK
  have hl := lv_entry ([.ref h0, .int p0]) (n := 2) (Nat.le_of_ble_eq_true rfl)
  rw [lg_entry_eq]
  generalize (lg_sl ([.ref h0, .int p0]) ++ List.replicate (2 - (lg_sl ([.ref h0, .int p0])).length) Slot.unset).toArray = ls at hl ⊢
  have hl : lv_has ls 2 [(0, .ref h0), (1, .int p0)] := hl
  have kk256 : (256 : Int32).toInt = 256 := by decide
  refine lv_aload_n hx hb dX9_key_0 rfl (lv_at hl 0 rfl) ?_
  refine lv_iload_n hx hb dX9_key_1 rfl (lv_at hl 1 rfl) ?_
  refine lv_sipush (v := 256) hx hb dX9_key_2 (by decide) ?_
  have hPc := hP.sub (ws' := []) [] rfl
  have hDc := hD.sub (ws' := []) [] (by decide) rfl
  have hKc := hK.sub (tys' := []) [] rfl
  have hFc := va_free (wc := []) hD hS hA [] rfl
  refine va_calli (va_runS (As := [.int p0, .int 256]) (rest := [.ref h0]) ⟨hx, hb, hml, hown, hts⟩ (c_mout l dC dI p0 256 H.size) (va_cwS 2 hts gX9_key_X9_out rfl rfl rfl (by decide +kernel) ⟨Nat.le_of_ble_eq_true rfl, Nat.le_of_ble_eq_true rfl⟩) ⟨fun a U g mk q => by obtain ⟨q0, q1, qP, qK, qD⟩ := q; exact ⟨q0, q1, qP, va_K.moved (u := U) (U := U.calling g mk a) (Vm.Alike.refl U.vm) qK, qD⟩, fun U hU hW => ⟨rfl, by rw [hU], by rw [hU]; exact hPc, va_K.moved hW.alike hKc, hDc.weaken (fun _ _ _ _ => trivial)⟩⟩ rfl rfl hl.1 rfl (lv_room (Nat.le_of_ble_eq_true rfl)) dX9_key_5 ⟨Nat.le_of_ble_eq_true rfl, Nat.le_of_ble_eq_true rfl⟩) hS (fun q _ h => hFc q h) hFc (fun r1 u2 t H1 locs ht hvm hw hB hz1 hk1 hS => ?_)
  obtain ⟨hP1, hK1, hD1⟩ := hB
  rw [ht] at hP1
  have hK1 := va_K.moved hvm.symm hK1
  try dsimp only at hw
  obtain ⟨hP, hD⟩ := va_join (wr := [(h0, .inr (8, [.int 0, .ref am, .ref ad, .ref ab, .int 0, .int 0, .ref ar, .int 0, .int 0, .int 2, .int 0, .int 0, .int 0, .ref az, .ref ae, .ref ao, .ref an, .ref au, .int 0, .int 0, .int 0, .ref ap, .ref aw, .int 0, .int 0, .int 0, .int 0, .int 0])), (az, .inl (tz, 3, .inl rdy))]) (w1 := []) hP hD [] [0, 1] rfl rfl (by decide) (by decide) hk1 hFc hP1 hD1
  have hK := (hK.sub (tys' := [(tz, .boolean)]) [0] rfl).app hK1
  generalize H1 = H at hP hS ⊢
  have hP : va_P (dC, dI) vwCl [(h0, .inr (8, [.int 0, .ref am, .ref ad, .ref ab, .int 0, .int 0, .ref ar, .int 0, .int 0, .int 2, .int 0, .int 0, .int 0, .ref az, .ref ae, .ref ao, .ref an, .ref au, .int 0, .int 0, .int 0, .ref ap, .ref aw, .int 0, .int 0, .int 0, .int 0, .int 0])), (az, .inl (tz, 3, .inl rdy))] H := hP
  have hD : va_D A [(h0, .inr (8, [.int 0, .ref am, .ref ad, .ref ab, .int 0, .int 0, .ref ar, .int 0, .int 0, .int 2, .int 0, .int 0, .int 0, .ref az, .ref ae, .ref ao, .ref an, .ref au, .int 0, .int 0, .int 0, .ref ap, .ref aw, .int 0, .int 0, .int 0, .int 0, .int 0])), (az, .inl (tz, 3, .inl rdy))] := hD
  have hK : va_K (dC, dI) vwCl [(tz, .boolean)] s := hK
  rcases hw with ⟨rfl, _, _⟩ | ⟨rfl, _⟩
  · skip
    refine lv_if_eq (tgt := 15) hx hb dX9_key_8 (by decide) (fun c3 => ?_) (fun c3 => ?_)
    · skip
      refine lv_iconst (v := 0) hx hb dX9_key_15 (by decide) ?_
      refine va_put (D := (dC, dI)) (ci := 8) (v := .int 0) (ty := .int) (C := RX9) (T := TX9) (N := 28) hx hb hts (by decide +kernel) tyX9 tyX9_ok nmX9 hown hK hP hD hS 0 rfl rfl 0 (by decide) (hts (.fieldLink RX9 48 "UnibusMachineModel" "thrown" "I") (by decide +kernel)) (fun _ h9 => h9) rfl (by decide +kernel) rfl rfl (Nat.le_of_ble_eq_true rfl) dX9_key_16 (fun H locs hP hD hS => ?_)
      have hP : va_P (dC, dI) vwCl [(h0, .inr (8, [.int 0, .ref am, .ref ad, .ref ab, .int 0, .int 0, .ref ar, .int 0, .int 0, .int 2, .int 0, .int 0, .int 0, .ref az, .ref ae, .ref ao, .ref an, .ref au, .int 0, .int 0, .int 0, .ref ap, .ref aw, .int 0, .int 0, .int 0, .int 0, .int 0])), (az, .inl (tz, 3, .inl rdy))] H := hP
      have hD : va_D A [(h0, .inr (8, [.int 0, .ref am, .ref ad, .ref ab, .int 0, .int 0, .ref ar, .int 0, .int 0, .int 2, .int 0, .int 0, .int 0, .ref az, .ref ae, .ref ao, .ref an, .ref au, .int 0, .int 0, .int 0, .ref ap, .ref aw, .int 0, .int 0, .int 0, .int 0, .int 0])), (az, .inl (tz, 3, .inl rdy))] := hD
      refine lv_aload_n hx hb dX9_key_19 rfl (lv_at hl 0 rfl) ?_
      refine va_get (D := (dC, dI)) (ci := 8) (v := .int 0) (C := RX9) (T := TX9) (N := 28) hx hb hts (by decide +kernel) hown hK hP 0 rfl rfl 0 (by decide) (hts (.fieldLink RX9 48 "UnibusMachineModel" "thrown" "I") (by decide +kernel)) (fun _ h9 => h9) rfl dX9_key_20 ?_
      refine lv_if_le (tgt := 27) hx hb dX9_key_23 (by decide) (fun c4 => ?_) (fun c4 => ?_)
      · skip
        refine lv_aload_n hx hb dX9_key_27 rfl (lv_at hl 0 rfl) ?_
        refine lv_iload_n hx hb dX9_key_28 rfl (lv_at hl 1 rfl) ?_
        refine va_put (D := (dC, dI)) (ci := 8) (v := .int p0) (ty := .int) (C := RX9) (T := TX9) (N := 28) hx hb hts (by decide +kernel) tyX9 tyX9_ok nmX9 hown hK hP hD hS 0 rfl rfl 18 (by decide) (hts (.fieldLink RX9 72 "UnibusMachineModel" "typed" "I") (by decide +kernel)) (fun _ h9 => h9) rfl (by decide +kernel) rfl rfl (Nat.le_of_ble_eq_true rfl) dX9_key_29 (fun H locs hP hD hS => ?_)
        have hP : va_P (dC, dI) vwCl [(h0, .inr (8, [.int 0, .ref am, .ref ad, .ref ab, .int 0, .int 0, .ref ar, .int 0, .int 0, .int 2, .int 0, .int 0, .int 0, .ref az, .ref ae, .ref ao, .ref an, .ref au, .int p0, .int 0, .int 0, .ref ap, .ref aw, .int 0, .int 0, .int 0, .int 0, .int 0])), (az, .inl (tz, 3, .inl rdy))] H := hP
        have hD : va_D A [(h0, .inr (8, [.int 0, .ref am, .ref ad, .ref ab, .int 0, .int 0, .ref ar, .int 0, .int 0, .int 2, .int 0, .int 0, .int 0, .ref az, .ref ae, .ref ao, .ref an, .ref au, .int p0, .int 0, .int 0, .ref ap, .ref aw, .int 0, .int 0, .int 0, .int 0, .int 0])), (az, .inl (tz, 3, .inl rdy))] := hD
        refine lv_aload_n hx hb dX9_key_32 rfl (lv_at hl 0 rfl) ?_
        refine va_get (D := (dC, dI)) (ci := 8) (v := .ref az) (C := RX9) (T := TX9) (N := 28) hx hb hts (by decide +kernel) hown hK hP 0 rfl rfl 13 (by decide) (hts (.fieldLink RX9 26 "UnibusMachineModel" "ready" "[Z") (by decide +kernel)) (fun _ h9 => h9) rfl dX9_key_33 ?_
        refine lv_iconst (v := 1) hx hb dX9_key_36 (by decide) ?_
        refine lv_iconst (v := 1) hx hb dX9_key_37 (by decide) ?_
        refine va_zast (D := (dC, dI)) hx hb hK hP hD hS 1 0 rfl rfl (vp_in_iff.mpr (by decide)) dX9_key_38 (fun H locs hP hD hS => ?_)
        have hP : va_P (dC, dI) vwCl [(h0, .inr (8, [.int 0, .ref am, .ref ad, .ref ab, .int 0, .int 0, .ref ar, .int 0, .int 0, .int 2, .int 0, .int 0, .int 0, .ref az, .ref ae, .ref ao, .ref an, .ref au, .int p0, .int 0, .int 0, .ref ap, .ref aw, .int 0, .int 0, .int 0, .int 0, .int 0])), (az, .inl (tz, 3, .inl (upd rdy (1 : Int32).toNatClampNeg (vp_nar .boolean 1))))] H := hP
        have hD : va_D A [(h0, .inr (8, [.int 0, .ref am, .ref ad, .ref ab, .int 0, .int 0, .ref ar, .int 0, .int 0, .int 2, .int 0, .int 0, .int 0, .ref az, .ref ae, .ref ao, .ref an, .ref au, .int p0, .int 0, .int 0, .ref ap, .ref aw, .int 0, .int 0, .int 0, .int 0, .int 0])), (az, .inl (tz, 3, .inl (upd rdy (1 : Int32).toNatClampNeg (vp_nar .boolean 1))))] := hD
        have hP9 := hP.sub (ws' := [(h0, .inr (8, [.int 0, .ref am, .ref ad, .ref ab, .int 0, .int 0, .ref ar, .int 0, .int 0, .int 2, .int 0, .int 0, .int 0, .ref az, .ref ae, .ref ao, .ref an, .ref au, .int p0, .int 0, .int 0, .ref ap, .ref aw, .int 0, .int 0, .int 0, .int 0, .int 0]))]) [0] rfl
        have hD9 := hD.sub (ws' := [(h0, .inr (8, [.int 0, .ref am, .ref ad, .ref ab, .int 0, .int 0, .ref ar, .int 0, .int 0, .int 2, .int 0, .int 0, .int 0, .ref az, .ref ae, .ref ao, .ref an, .ref au, .int p0, .int 0, .int 0, .ref ap, .ref aw, .int 0, .int 0, .int 0, .int 0, .int 0]))]) [0] (by decide) rfl
        have hK9 := hK.sub (tys' := []) [] rfl
        exact W.vret hx hb hr (fun t ht hW => ⟨⟨0, rfl, (by first | (exact Or.inl ⟨rfl, by omega⟩) | (exact Or.inr ⟨rfl, by omega⟩)), [.ref am, .ref ad, .ref ab, .int 0, .int 0, .ref ar, .int 0, .int 0, .int 2, .int 0, .int 0, .int 0, .ref az, .ref ae, .ref ao, .ref an, .ref au, .int p0, .int 0, .int 0, .ref ap, .ref aw, .int 0, .int 0, .int 0, .int 0, .int 0], by rw [ht]; exact hP9, va_K.moved hW.alike hK9, hD9⟩, hS.F ht⟩) hS.2.2 dX9_key_39
      · exact absurd c4 (by decide)
    · exact absurd c3 (by decide)
  · skip
    refine lv_if_eq (tgt := 15) hx hb dX9_key_8 (by decide) (fun c5 => ?_) (fun c5 => ?_)
    · exact absurd c5 (by decide)
    · skip
      refine lv_iconst (v := 1) hx hb dX9_key_11 (by decide) ?_
      refine lv_goto (tgt := 16) hx hb dX9_key_12 (by decide) ?_
      refine va_put (D := (dC, dI)) (ci := 8) (v := .int 1) (ty := .int) (C := RX9) (T := TX9) (N := 28) hx hb hts (by decide +kernel) tyX9 tyX9_ok nmX9 hown hK hP hD hS 0 rfl rfl 0 (by decide) (hts (.fieldLink RX9 48 "UnibusMachineModel" "thrown" "I") (by decide +kernel)) (fun _ h9 => h9) rfl (by decide +kernel) rfl rfl (Nat.le_of_ble_eq_true rfl) dX9_key_16 (fun H locs hP hD hS => ?_)
      have hP : va_P (dC, dI) vwCl [(h0, .inr (8, [.int 1, .ref am, .ref ad, .ref ab, .int 0, .int 0, .ref ar, .int 0, .int 0, .int 2, .int 0, .int 0, .int 0, .ref az, .ref ae, .ref ao, .ref an, .ref au, .int 0, .int 0, .int 0, .ref ap, .ref aw, .int 0, .int 0, .int 0, .int 0, .int 0])), (az, .inl (tz, 3, .inl rdy))] H := hP
      have hD : va_D A [(h0, .inr (8, [.int 1, .ref am, .ref ad, .ref ab, .int 0, .int 0, .ref ar, .int 0, .int 0, .int 2, .int 0, .int 0, .int 0, .ref az, .ref ae, .ref ao, .ref an, .ref au, .int 0, .int 0, .int 0, .ref ap, .ref aw, .int 0, .int 0, .int 0, .int 0, .int 0])), (az, .inl (tz, 3, .inl rdy))] := hD
      refine lv_aload_n hx hb dX9_key_19 rfl (lv_at hl 0 rfl) ?_
      refine va_get (D := (dC, dI)) (ci := 8) (v := .int 1) (C := RX9) (T := TX9) (N := 28) hx hb hts (by decide +kernel) hown hK hP 0 rfl rfl 0 (by decide) (hts (.fieldLink RX9 48 "UnibusMachineModel" "thrown" "I") (by decide +kernel)) (fun _ h9 => h9) rfl dX9_key_20 ?_
      refine lv_if_le (tgt := 27) hx hb dX9_key_23 (by decide) (fun c6 => ?_) (fun c6 => ?_)
      · exact absurd c6 (by decide)
      · skip
        have hP9 := hP.sub (ws' := [(h0, .inr (8, [.int 1, .ref am, .ref ad, .ref ab, .int 0, .int 0, .ref ar, .int 0, .int 0, .int 2, .int 0, .int 0, .int 0, .ref az, .ref ae, .ref ao, .ref an, .ref au, .int 0, .int 0, .int 0, .ref ap, .ref aw, .int 0, .int 0, .int 0, .int 0, .int 0]))]) [0] rfl
        have hD9 := hD.sub (ws' := [(h0, .inr (8, [.int 1, .ref am, .ref ad, .ref ab, .int 0, .int 0, .ref ar, .int 0, .int 0, .int 2, .int 0, .int 0, .int 0, .ref az, .ref ae, .ref ao, .ref an, .ref au, .int 0, .int 0, .int 0, .ref ap, .ref aw, .int 0, .int 0, .int 0, .int 0, .int 0]))]) [0] (by decide) rfl
        have hK9 := hK.sub (tys' := []) [] rfl
        exact W.vret hx hb hr (fun t ht hW => ⟨⟨1, rfl, (by first | (exact Or.inl ⟨rfl, by omega⟩) | (exact Or.inr ⟨rfl, by omega⟩)), [.ref am, .ref ad, .ref ab, .int 0, .int 0, .ref ar, .int 0, .int 0, .int 2, .int 0, .int 0, .int 0, .ref az, .ref ae, .ref ao, .ref an, .ref au, .int 0, .int 0, .int 0, .ref ap, .ref aw, .int 0, .int 0, .int 0, .int 0, .int 0], by rw [ht]; exact hP9, va_K.moved hW.alike hK9, hD9⟩, hS.F ht⟩) hS.2.2 dX9_key_26
set_option maxHeartbeats 4000000 in
set_option maxRecDepth 100000 in
theorem c_mprinted (l : Launch) (dC : Nat → ClassId) (dI : Nat → Nat → Nat) (h0 : Nat) (am : Nat) (ad : Nat) (ab : Nat) (ar : Nat) (az : Nat) (ae : Nat) (ao : Nat) (an : Nat) (au : Nat) (ap : Nat) (aw : Nat) (tp : ClassId) (p0 : Int32) (sz : Nat) : Met l yX9_printed wsX9_printed ({ frames := 0, cells := 0, slots := 0, locals := 0 } : Room) (va_Pc [.ref h0, .int p0] (fun U => U.heap.size = sz ∧ va_P (dC, dI) vwCl [(h0, .inr (8, [.int 0, .ref am, .ref ad, .ref ab, .int 0, .int 0, .ref ar, .int 0, .int 0, .int 2, .int 0, .int 0, .int 0, .ref az, .ref ae, .ref ao, .ref an, .ref au, .int 0, .int 0, .int 0, .ref ap, .ref aw, .int 0, .int 0, .int 0, .int 0, .int 0])), (ap, .inl (tp, 32, .inl (fun _ => 0)))] U.heap ∧ va_K (dC, dI) vwCl [(tp, .int)] U ∧ va_D (fun _ => True) [(h0, .inr (8, [.int 0, .ref am, .ref ad, .ref ab, .int 0, .int 0, .ref ar, .int 0, .int 0, .int 2, .int 0, .int 0, .int 0, .ref az, .ref ae, .ref ao, .ref an, .ref au, .int 0, .int 0, .int 0, .ref ap, .ref aw, .int 0, .int 0, .int 0, .int 0, .int 0])), (ap, .inl (tp, 32, .inl (fun _ => 0)))])) (va_Qi (fun (r : Int32) (u : Int32) => r = 0 ∧ ((u = 0 ∧ (p0.toInt = -1)) ∨ (u = 1 ∧ ¬ (p0.toInt = -1)))) (fun (u : Int32) (t : State) => ∃ (fs : List Value), va_P (dC, dI) vwCl [(h0, .inr (8, .int u :: fs))] t.heap ∧ va_K (dC, dI) vwCl [] t ∧ va_D (va_A [(h0, .inr (8, [.int 0, .ref am, .ref ad, .ref ab, .int 0, .int 0, .ref ar, .int 0, .int 0, .int 2, .int 0, .int 0, .int 0, .ref az, .ref ae, .ref ao, .ref an, .ref au, .int 0, .int 0, .int 0, .ref ap, .ref aw, .int 0, .int 0, .int 0, .int 0, .int 0])), (ap, .inl (tp, 32, .inl (fun _ => 0)))] sz) [(h0, .inr (8, .int u :: fs))]) (va_A [(h0, .inr (8, [.int 0, .ref am, .ref ad, .ref ab, .int 0, .int 0, .ref ar, .int 0, .int 0, .int 2, .int 0, .int 0, .int 0, .ref az, .ref ae, .ref ao, .ref an, .ref au, .int 0, .int 0, .int 0, .ref ap, .ref aw, .int 0, .int 0, .int 0, .int 0, .int 0])), (ap, .inl (tp, 32, .inl (fun _ => 0)))] sz)) 0 0 (va_A [(h0, .inr (8, [.int 0, .ref am, .ref ad, .ref ab, .int 0, .int 0, .ref ar, .int 0, .int 0, .int 2, .int 0, .int 0, .int 0, .ref az, .ref ae, .ref ao, .ref an, .ref au, .int 0, .int 0, .int 0, .ref ap, .ref aw, .int 0, .int 0, .int 0, .int 0, .int 0])), (ap, .inl (tp, 32, .inl (fun _ => 0)))] sz) := by
  refine Met.ofW (cc := cX9_printed) (maxL := 2) (ret := (some .int)) (by decide) rfl ?_
  intro p e s m args below meth c s₁ B hml hv
  obtain ⟨rfl, hsz, hP, hK, hD0⟩ := hv
  have hx := B.exec
  have hb := B.bytes
  have hr := B.returns
  have hts := atoms_spec (ws := wsX9_printed) B.pre
  have hown : s.vm.findClass RX9 = some m.cls := findClass_of_methodNamed B.named
  have hlocks := B.notSynchronized
  subst hsz
  have hD := hD0.self (sz := s.heap.size)
  generalize hAe : va_A [(h0, .inr (8, [.int 0, .ref am, .ref ad, .ref ab, .int 0, .int 0, .ref ar, .int 0, .int 0, .int 2, .int 0, .int 0, .int 0, .ref az, .ref ae, .ref ao, .ref an, .ref au, .int 0, .int 0, .int 0, .ref ap, .ref aw, .int 0, .int 0, .int 0, .int 0, .int 0])), (ap, .inl (tp, 32, .inl (fun _ => 0)))] s.heap.size = A at hD ⊢
  have hA : ∀ q : Nat, s.heap.size ≤ q → A q := fun q h => by rw [← hAe]; exact Or.inr h
  have hS0 : ∀ G : Heap, s.heap = G → va_S A s.heap G [] := fun G h => by subst h; exact va_S.rf
  generalize hHe : s.heap = H at hP ⊢
  have hS := hS0 H hHe
  have hP : va_P (dC, dI) vwCl [(h0, .inr (8, [.int 0, .ref am, .ref ad, .ref ab, .int 0, .int 0, .ref ar, .int 0, .int 0, .int 2, .int 0, .int 0, .int 0, .ref az, .ref ae, .ref ao, .ref an, .ref au, .int 0, .int 0, .int 0, .ref ap, .ref aw, .int 0, .int 0, .int 0, .int 0, .int 0])), (ap, .inl (tp, 32, .inl (fun _ => 0)))] H := hP
  have hD : va_D A [(h0, .inr (8, [.int 0, .ref am, .ref ad, .ref ab, .int 0, .int 0, .ref ar, .int 0, .int 0, .int 2, .int 0, .int 0, .int 0, .ref az, .ref ae, .ref ao, .ref an, .ref au, .int 0, .int 0, .int 0, .ref ap, .ref aw, .int 0, .int 0, .int 0, .int 0, .int 0])), (ap, .inl (tp, 32, .inl (fun _ => 0)))] := hD
  have hK : va_K (dC, dI) vwCl [(tp, .int)] s := hK
  have hl := lv_entry ([.ref h0, .int p0]) (n := 2) (Nat.le_of_ble_eq_true rfl)
  rw [lg_entry_eq]
  generalize (lg_sl ([.ref h0, .int p0]) ++ List.replicate (2 - (lg_sl ([.ref h0, .int p0])).length) Slot.unset).toArray = ls at hl ⊢
  have hl : lv_has ls 2 [(0, .ref h0), (1, .int p0)] := hl
  have kk0 : (0 : Int32).toInt = 0 := by decide
  have kkm1 : ((-1) : Int32).toInt = -1 := by decide
  have kk31 : (31 : Int32).toInt = 31 := by decide
  refine lv_aload_n hx hb dX9_printed_0 rfl (lv_at hl 0 rfl) ?_
  refine lv_iload_n hx hb dX9_printed_1 rfl (lv_at hl 1 rfl) ?_
  refine lv_iconst (v := (-1)) hx hb dX9_printed_2 (by decide) ?_
  refine lv_icmp_lt (tgt := 20) hx hb dX9_printed_3 (by decide) (fun c1 => ?_) (fun c1 => ?_)
  · have c1 := fz_lt.mp c1
    have kkm1 : ((-1) : Int32).toInt = -1 := by decide
    refine lv_iconst (v := 1) hx hb dX9_printed_20 (by decide) ?_
    refine lv_goto (tgt := 25) hx hb dX9_printed_21 (by decide) ?_
    refine va_put (D := (dC, dI)) (ci := 8) (v := .int 1) (ty := .int) (C := RX9) (T := TX9) (N := 28) hx hb hts (by decide +kernel) tyX9 tyX9_ok nmX9 hown hK hP hD hS 0 rfl rfl 0 (by decide) (hts (.fieldLink RX9 48 "UnibusMachineModel" "thrown" "I") (by decide +kernel)) (fun _ h9 => h9) rfl (by decide +kernel) rfl rfl (Nat.le_of_ble_eq_true rfl) dX9_printed_25 (fun H locs hP hD hS => ?_)
    have hP : va_P (dC, dI) vwCl [(h0, .inr (8, [.int 1, .ref am, .ref ad, .ref ab, .int 0, .int 0, .ref ar, .int 0, .int 0, .int 2, .int 0, .int 0, .int 0, .ref az, .ref ae, .ref ao, .ref an, .ref au, .int 0, .int 0, .int 0, .ref ap, .ref aw, .int 0, .int 0, .int 0, .int 0, .int 0])), (ap, .inl (tp, 32, .inl (fun _ => 0)))] H := hP
    have hD : va_D A [(h0, .inr (8, [.int 1, .ref am, .ref ad, .ref ab, .int 0, .int 0, .ref ar, .int 0, .int 0, .int 2, .int 0, .int 0, .int 0, .ref az, .ref ae, .ref ao, .ref an, .ref au, .int 0, .int 0, .int 0, .ref ap, .ref aw, .int 0, .int 0, .int 0, .int 0, .int 0])), (ap, .inl (tp, 32, .inl (fun _ => 0)))] := hD
    refine lv_aload_n hx hb dX9_printed_28 rfl (lv_at hl 0 rfl) ?_
    refine va_get (D := (dC, dI)) (ci := 8) (v := .int 1) (C := RX9) (T := TX9) (N := 28) hx hb hts (by decide +kernel) hown hK hP 0 rfl rfl 0 (by decide) (hts (.fieldLink RX9 48 "UnibusMachineModel" "thrown" "I") (by decide +kernel)) (fun _ h9 => h9) rfl dX9_printed_29 ?_
    refine lv_if_le (tgt := 37) hx hb dX9_printed_32 (by decide) (fun c2 => ?_) (fun c2 => ?_)
    · exact absurd c2 (by decide)
    · skip
      refine lv_iconst (v := 0) hx hb dX9_printed_35 (by decide) ?_
      have hP9 := hP.sub (ws' := [(h0, .inr (8, [.int 1, .ref am, .ref ad, .ref ab, .int 0, .int 0, .ref ar, .int 0, .int 0, .int 2, .int 0, .int 0, .int 0, .ref az, .ref ae, .ref ao, .ref an, .ref au, .int 0, .int 0, .int 0, .ref ap, .ref aw, .int 0, .int 0, .int 0, .int 0, .int 0]))]) [0] rfl
      have hD9 := hD.sub (ws' := [(h0, .inr (8, [.int 1, .ref am, .ref ad, .ref ab, .int 0, .int 0, .ref ar, .int 0, .int 0, .int 2, .int 0, .int 0, .int 0, .ref az, .ref ae, .ref ao, .ref an, .ref au, .int 0, .int 0, .int 0, .ref ap, .ref aw, .int 0, .int 0, .int 0, .int 0, .int 0]))]) [0] (by decide) rfl
      have hK9 := hK.sub (tys' := []) [] rfl
      exact W.iret (v := 0) hx hb hr (fun t ht hW => ⟨⟨0, 1, rfl, ⟨rfl, (by first | (exact Or.inl ⟨rfl, by omega⟩) | (exact Or.inr ⟨rfl, by omega⟩))⟩, [.ref am, .ref ad, .ref ab, .int 0, .int 0, .ref ar, .int 0, .int 0, .int 2, .int 0, .int 0, .int 0, .ref az, .ref ae, .ref ao, .ref an, .ref au, .int 0, .int 0, .int 0, .ref ap, .ref aw, .int 0, .int 0, .int 0, .int 0, .int 0], by rw [ht]; exact hP9, va_K.moved hW.alike hK9, hD9⟩, hS.F ht⟩) hS.2.2 dX9_printed_36
  · have c1 := fz_nlt.mp c1
    have kkm1 : ((-1) : Int32).toInt = -1 := by decide
    refine lv_iload_n hx hb dX9_printed_6 rfl (lv_at hl 1 rfl) ?_
    refine lv_bipush (v := 31) hx hb dX9_printed_7 (by decide) ?_
    refine lv_icmp_gt (tgt := 20) hx hb dX9_printed_9 (by decide) (fun c3 => ?_) (fun c3 => ?_)
    · have c3 := fz_lt.mp c3
      have kk31 : (31 : Int32).toInt = 31 := by decide
      refine lv_iconst (v := 1) hx hb dX9_printed_20 (by decide) ?_
      refine lv_goto (tgt := 25) hx hb dX9_printed_21 (by decide) ?_
      refine va_put (D := (dC, dI)) (ci := 8) (v := .int 1) (ty := .int) (C := RX9) (T := TX9) (N := 28) hx hb hts (by decide +kernel) tyX9 tyX9_ok nmX9 hown hK hP hD hS 0 rfl rfl 0 (by decide) (hts (.fieldLink RX9 48 "UnibusMachineModel" "thrown" "I") (by decide +kernel)) (fun _ h9 => h9) rfl (by decide +kernel) rfl rfl (Nat.le_of_ble_eq_true rfl) dX9_printed_25 (fun H locs hP hD hS => ?_)
      have hP : va_P (dC, dI) vwCl [(h0, .inr (8, [.int 1, .ref am, .ref ad, .ref ab, .int 0, .int 0, .ref ar, .int 0, .int 0, .int 2, .int 0, .int 0, .int 0, .ref az, .ref ae, .ref ao, .ref an, .ref au, .int 0, .int 0, .int 0, .ref ap, .ref aw, .int 0, .int 0, .int 0, .int 0, .int 0])), (ap, .inl (tp, 32, .inl (fun _ => 0)))] H := hP
      have hD : va_D A [(h0, .inr (8, [.int 1, .ref am, .ref ad, .ref ab, .int 0, .int 0, .ref ar, .int 0, .int 0, .int 2, .int 0, .int 0, .int 0, .ref az, .ref ae, .ref ao, .ref an, .ref au, .int 0, .int 0, .int 0, .ref ap, .ref aw, .int 0, .int 0, .int 0, .int 0, .int 0])), (ap, .inl (tp, 32, .inl (fun _ => 0)))] := hD
      refine lv_aload_n hx hb dX9_printed_28 rfl (lv_at hl 0 rfl) ?_
      refine va_get (D := (dC, dI)) (ci := 8) (v := .int 1) (C := RX9) (T := TX9) (N := 28) hx hb hts (by decide +kernel) hown hK hP 0 rfl rfl 0 (by decide) (hts (.fieldLink RX9 48 "UnibusMachineModel" "thrown" "I") (by decide +kernel)) (fun _ h9 => h9) rfl dX9_printed_29 ?_
      refine lv_if_le (tgt := 37) hx hb dX9_printed_32 (by decide) (fun c4 => ?_) (fun c4 => ?_)
      · exact absurd c4 (by decide)
      · skip
        refine lv_iconst (v := 0) hx hb dX9_printed_35 (by decide) ?_
        have hP9 := hP.sub (ws' := [(h0, .inr (8, [.int 1, .ref am, .ref ad, .ref ab, .int 0, .int 0, .ref ar, .int 0, .int 0, .int 2, .int 0, .int 0, .int 0, .ref az, .ref ae, .ref ao, .ref an, .ref au, .int 0, .int 0, .int 0, .ref ap, .ref aw, .int 0, .int 0, .int 0, .int 0, .int 0]))]) [0] rfl
        have hD9 := hD.sub (ws' := [(h0, .inr (8, [.int 1, .ref am, .ref ad, .ref ab, .int 0, .int 0, .ref ar, .int 0, .int 0, .int 2, .int 0, .int 0, .int 0, .ref az, .ref ae, .ref ao, .ref an, .ref au, .int 0, .int 0, .int 0, .ref ap, .ref aw, .int 0, .int 0, .int 0, .int 0, .int 0]))]) [0] (by decide) rfl
        have hK9 := hK.sub (tys' := []) [] rfl
        exact W.iret (v := 0) hx hb hr (fun t ht hW => ⟨⟨0, 1, rfl, ⟨rfl, (by first | (exact Or.inl ⟨rfl, by omega⟩) | (exact Or.inr ⟨rfl, by omega⟩))⟩, [.ref am, .ref ad, .ref ab, .int 0, .int 0, .ref ar, .int 0, .int 0, .int 2, .int 0, .int 0, .int 0, .ref az, .ref ae, .ref ao, .ref an, .ref au, .int 0, .int 0, .int 0, .ref ap, .ref aw, .int 0, .int 0, .int 0, .int 0, .int 0], by rw [ht]; exact hP9, va_K.moved hW.alike hK9, hD9⟩, hS.F ht⟩) hS.2.2 dX9_printed_36
    · have c3 := fz_nlt.mp c3
      have kk31 : (31 : Int32).toInt = 31 := by decide
      refine lv_iload_n hx hb dX9_printed_12 rfl (lv_at hl 1 rfl) ?_
      refine lv_aload_n hx hb dX9_printed_13 rfl (lv_at hl 0 rfl) ?_
      refine va_get (D := (dC, dI)) (ci := 8) (v := .int 0) (C := RX9) (T := TX9) (N := 28) hx hb hts (by decide +kernel) hown hK hP 0 rfl rfl 20 (by decide) (hts (.fieldLink RX9 254 "UnibusMachineModel" "count" "I") (by decide +kernel)) (fun _ h9 => h9) rfl dX9_printed_14 ?_
      refine lv_icmp_lt (tgt := 24) hx hb dX9_printed_17 (by decide) (fun c5 => ?_) (fun c5 => ?_)
      · have c5 := fz_lt.mp c5
        have kk0 : (0 : Int32).toInt = 0 := by decide
        refine lv_iconst (v := 0) hx hb dX9_printed_24 (by decide) ?_
        refine va_put (D := (dC, dI)) (ci := 8) (v := .int 0) (ty := .int) (C := RX9) (T := TX9) (N := 28) hx hb hts (by decide +kernel) tyX9 tyX9_ok nmX9 hown hK hP hD hS 0 rfl rfl 0 (by decide) (hts (.fieldLink RX9 48 "UnibusMachineModel" "thrown" "I") (by decide +kernel)) (fun _ h9 => h9) rfl (by decide +kernel) rfl rfl (Nat.le_of_ble_eq_true rfl) dX9_printed_25 (fun H locs hP hD hS => ?_)
        have hP : va_P (dC, dI) vwCl [(h0, .inr (8, [.int 0, .ref am, .ref ad, .ref ab, .int 0, .int 0, .ref ar, .int 0, .int 0, .int 2, .int 0, .int 0, .int 0, .ref az, .ref ae, .ref ao, .ref an, .ref au, .int 0, .int 0, .int 0, .ref ap, .ref aw, .int 0, .int 0, .int 0, .int 0, .int 0])), (ap, .inl (tp, 32, .inl (fun _ => 0)))] H := hP
        have hD : va_D A [(h0, .inr (8, [.int 0, .ref am, .ref ad, .ref ab, .int 0, .int 0, .ref ar, .int 0, .int 0, .int 2, .int 0, .int 0, .int 0, .ref az, .ref ae, .ref ao, .ref an, .ref au, .int 0, .int 0, .int 0, .ref ap, .ref aw, .int 0, .int 0, .int 0, .int 0, .int 0])), (ap, .inl (tp, 32, .inl (fun _ => 0)))] := hD
        refine lv_aload_n hx hb dX9_printed_28 rfl (lv_at hl 0 rfl) ?_
        refine va_get (D := (dC, dI)) (ci := 8) (v := .int 0) (C := RX9) (T := TX9) (N := 28) hx hb hts (by decide +kernel) hown hK hP 0 rfl rfl 0 (by decide) (hts (.fieldLink RX9 48 "UnibusMachineModel" "thrown" "I") (by decide +kernel)) (fun _ h9 => h9) rfl dX9_printed_29 ?_
        refine lv_if_le (tgt := 37) hx hb dX9_printed_32 (by decide) (fun c6 => ?_) (fun c6 => ?_)
        · skip
          refine lv_iload_n hx hb dX9_printed_37 rfl (lv_at hl 1 rfl) ?_
          refine lv_if_ge (tgt := 48) hx hb dX9_printed_38 (by decide) (fun c7 => ?_) (fun c7 => ?_)
          · have c7 := fz_le.mp c7
            have kk0 : (0 : Int32).toInt = 0 := by decide
            exact False.elim (by omega)
          · have c7 := fz_nle.mp c7
            have kk0 : (0 : Int32).toInt = 0 := by decide
            refine lv_aload_n hx hb dX9_printed_41 rfl (lv_at hl 0 rfl) ?_
            refine va_get (D := (dC, dI)) (ci := 8) (v := .int 0) (C := RX9) (T := TX9) (N := 28) hx hb hts (by decide +kernel) hown hK hP 0 rfl rfl 20 (by decide) (hts (.fieldLink RX9 254 "UnibusMachineModel" "count" "I") (by decide +kernel)) (fun _ h9 => h9) rfl dX9_printed_42 ?_
            refine lv_goto (tgt := 64) hx hb dX9_printed_45 (by decide) ?_
            have hP9 := hP.sub (ws' := [(h0, .inr (8, [.int 0, .ref am, .ref ad, .ref ab, .int 0, .int 0, .ref ar, .int 0, .int 0, .int 2, .int 0, .int 0, .int 0, .ref az, .ref ae, .ref ao, .ref an, .ref au, .int 0, .int 0, .int 0, .ref ap, .ref aw, .int 0, .int 0, .int 0, .int 0, .int 0]))]) [0] rfl
            have hD9 := hD.sub (ws' := [(h0, .inr (8, [.int 0, .ref am, .ref ad, .ref ab, .int 0, .int 0, .ref ar, .int 0, .int 0, .int 2, .int 0, .int 0, .int 0, .ref az, .ref ae, .ref ao, .ref an, .ref au, .int 0, .int 0, .int 0, .ref ap, .ref aw, .int 0, .int 0, .int 0, .int 0, .int 0]))]) [0] (by decide) rfl
            have hK9 := hK.sub (tys' := []) [] rfl
            exact W.iret (v := 0) hx hb hr (fun t ht hW => ⟨⟨0, 0, rfl, ⟨rfl, (by first | (exact Or.inl ⟨rfl, by omega⟩) | (exact Or.inr ⟨rfl, by omega⟩))⟩, [.ref am, .ref ad, .ref ab, .int 0, .int 0, .ref ar, .int 0, .int 0, .int 2, .int 0, .int 0, .int 0, .ref az, .ref ae, .ref ao, .ref an, .ref au, .int 0, .int 0, .int 0, .ref ap, .ref aw, .int 0, .int 0, .int 0, .int 0, .int 0], by rw [ht]; exact hP9, va_K.moved hW.alike hK9, hD9⟩, hS.F ht⟩) hS.2.2 dX9_printed_64
        · exact absurd c6 (by decide)
      · have c5 := fz_nlt.mp c5
        have kk0 : (0 : Int32).toInt = 0 := by decide
        refine lv_iconst (v := 1) hx hb dX9_printed_20 (by decide) ?_
        refine lv_goto (tgt := 25) hx hb dX9_printed_21 (by decide) ?_
        refine va_put (D := (dC, dI)) (ci := 8) (v := .int 1) (ty := .int) (C := RX9) (T := TX9) (N := 28) hx hb hts (by decide +kernel) tyX9 tyX9_ok nmX9 hown hK hP hD hS 0 rfl rfl 0 (by decide) (hts (.fieldLink RX9 48 "UnibusMachineModel" "thrown" "I") (by decide +kernel)) (fun _ h9 => h9) rfl (by decide +kernel) rfl rfl (Nat.le_of_ble_eq_true rfl) dX9_printed_25 (fun H locs hP hD hS => ?_)
        have hP : va_P (dC, dI) vwCl [(h0, .inr (8, [.int 1, .ref am, .ref ad, .ref ab, .int 0, .int 0, .ref ar, .int 0, .int 0, .int 2, .int 0, .int 0, .int 0, .ref az, .ref ae, .ref ao, .ref an, .ref au, .int 0, .int 0, .int 0, .ref ap, .ref aw, .int 0, .int 0, .int 0, .int 0, .int 0])), (ap, .inl (tp, 32, .inl (fun _ => 0)))] H := hP
        have hD : va_D A [(h0, .inr (8, [.int 1, .ref am, .ref ad, .ref ab, .int 0, .int 0, .ref ar, .int 0, .int 0, .int 2, .int 0, .int 0, .int 0, .ref az, .ref ae, .ref ao, .ref an, .ref au, .int 0, .int 0, .int 0, .ref ap, .ref aw, .int 0, .int 0, .int 0, .int 0, .int 0])), (ap, .inl (tp, 32, .inl (fun _ => 0)))] := hD
        refine lv_aload_n hx hb dX9_printed_28 rfl (lv_at hl 0 rfl) ?_
        refine va_get (D := (dC, dI)) (ci := 8) (v := .int 1) (C := RX9) (T := TX9) (N := 28) hx hb hts (by decide +kernel) hown hK hP 0 rfl rfl 0 (by decide) (hts (.fieldLink RX9 48 "UnibusMachineModel" "thrown" "I") (by decide +kernel)) (fun _ h9 => h9) rfl dX9_printed_29 ?_
        refine lv_if_le (tgt := 37) hx hb dX9_printed_32 (by decide) (fun c8 => ?_) (fun c8 => ?_)
        · exact absurd c8 (by decide)
        · skip
          refine lv_iconst (v := 0) hx hb dX9_printed_35 (by decide) ?_
          have hP9 := hP.sub (ws' := [(h0, .inr (8, [.int 1, .ref am, .ref ad, .ref ab, .int 0, .int 0, .ref ar, .int 0, .int 0, .int 2, .int 0, .int 0, .int 0, .ref az, .ref ae, .ref ao, .ref an, .ref au, .int 0, .int 0, .int 0, .ref ap, .ref aw, .int 0, .int 0, .int 0, .int 0, .int 0]))]) [0] rfl
          have hD9 := hD.sub (ws' := [(h0, .inr (8, [.int 1, .ref am, .ref ad, .ref ab, .int 0, .int 0, .ref ar, .int 0, .int 0, .int 2, .int 0, .int 0, .int 0, .ref az, .ref ae, .ref ao, .ref an, .ref au, .int 0, .int 0, .int 0, .ref ap, .ref aw, .int 0, .int 0, .int 0, .int 0, .int 0]))]) [0] (by decide) rfl
          have hK9 := hK.sub (tys' := []) [] rfl
          exact W.iret (v := 0) hx hb hr (fun t ht hW => ⟨⟨0, 1, rfl, ⟨rfl, (by first | (exact Or.inl ⟨rfl, by omega⟩) | (exact Or.inr ⟨rfl, by omega⟩))⟩, [.ref am, .ref ad, .ref ab, .int 0, .int 0, .ref ar, .int 0, .int 0, .int 2, .int 0, .int 0, .int 0, .ref az, .ref ae, .ref ao, .ref an, .ref au, .int 0, .int 0, .int 0, .ref ap, .ref aw, .int 0, .int 0, .int 0, .int 0, .int 0], by rw [ht]; exact hP9, va_K.moved hW.alike hK9, hD9⟩, hS.F ht⟩) hS.2.2 dX9_printed_36
set_option maxHeartbeats 4000000 in
set_option maxRecDepth 100000 in
theorem c_mload (l : Launch) (dC : Nat → ClassId) (dI : Nat → Nat → Nat) (h0 : Nat) (am : Nat) (ad : Nat) (ab : Nat) (ar : Nat) (az : Nat) (ae : Nat) (ao : Nat) (an : Nat) (au : Nat) (ap : Nat) (aw : Nat) (tw : ClassId) (p0 : Int32) (p1 : Int32) (p2 : Int32) (sz : Nat) : Met l yX9_load wsX9_load ({ frames := 1, cells := 0, slots := 0, locals := 21 } : Room) (va_Pc [.ref h0, .int p0, .int p1, .int p2] (fun U => U.heap.size = sz ∧ va_P (dC, dI) vwCl [(h0, .inr (8, [.int 0, .ref am, .ref ad, .ref ab, .int 0, .int 0, .ref ar, .int 0, .int 0, .int 2, .int 0, .int 0, .int 0, .ref az, .ref ae, .ref ao, .ref an, .ref au, .int 0, .int 0, .int 0, .ref ap, .ref aw, .int 0, .int 0, .int 0, .int 0, .int 0])), (aw, .inl (tw, 128, .inl (fun _ => 0)))] U.heap ∧ va_K (dC, dI) vwCl [(tw, .int)] U ∧ va_D (fun _ => True) [(h0, .inr (8, [.int 0, .ref am, .ref ad, .ref ab, .int 0, .int 0, .ref ar, .int 0, .int 0, .int 2, .int 0, .int 0, .int 0, .ref az, .ref ae, .ref ao, .ref an, .ref au, .int 0, .int 0, .int 0, .ref ap, .ref aw, .int 0, .int 0, .int 0, .int 0, .int 0])), (aw, .inl (tw, 128, .inl (fun _ => 0)))])) (va_Qv (fun (u : Int32) => (u = 0 ∧ ((0 ≤ p0.toInt ∧ p0.toInt < 8 ∧ 0 ≤ p1.toInt ∧ p1.toInt < 16) ∧ (0 ≤ p2.toInt ∧ p2.toInt ≤ 65535))) ∨ (u = 1 ∧ ¬ ((0 ≤ p0.toInt ∧ p0.toInt < 8 ∧ 0 ≤ p1.toInt ∧ p1.toInt < 16) ∧ (0 ≤ p2.toInt ∧ p2.toInt ≤ 65535)))) (fun (u : Int32) (t : State) => ∃ (fs : List Value), va_P (dC, dI) vwCl [(h0, .inr (8, .int u :: fs))] t.heap ∧ va_K (dC, dI) vwCl [] t ∧ va_D (va_A [(h0, .inr (8, [.int 0, .ref am, .ref ad, .ref ab, .int 0, .int 0, .ref ar, .int 0, .int 0, .int 2, .int 0, .int 0, .int 0, .ref az, .ref ae, .ref ao, .ref an, .ref au, .int 0, .int 0, .int 0, .ref ap, .ref aw, .int 0, .int 0, .int 0, .int 0, .int 0])), (aw, .inl (tw, 128, .inl (fun _ => 0)))] sz) [(h0, .inr (8, .int u :: fs))]) (va_A [(h0, .inr (8, [.int 0, .ref am, .ref ad, .ref ab, .int 0, .int 0, .ref ar, .int 0, .int 0, .int 2, .int 0, .int 0, .int 0, .ref az, .ref ae, .ref ao, .ref an, .ref au, .int 0, .int 0, .int 0, .ref ap, .ref aw, .int 0, .int 0, .int 0, .int 0, .int 0])), (aw, .inl (tw, 128, .inl (fun _ => 0)))] sz)) 0 0 (va_A [(h0, .inr (8, [.int 0, .ref am, .ref ad, .ref ab, .int 0, .int 0, .ref ar, .int 0, .int 0, .int 2, .int 0, .int 0, .int 0, .ref az, .ref ae, .ref ao, .ref an, .ref au, .int 0, .int 0, .int 0, .ref ap, .ref aw, .int 0, .int 0, .int 0, .int 0, .int 0])), (aw, .inl (tw, 128, .inl (fun _ => 0)))] sz) := by
  refine Met.ofW (cc := cX9_load) (maxL := 4) (ret := none) (by decide) rfl ?_
  intro p e s m args below meth c s₁ B hml hv
  obtain ⟨rfl, hsz, hP, hK, hD0⟩ := hv
  have hx := B.exec
  have hb := B.bytes
  have hr := B.returns
  have hts := atoms_spec (ws := wsX9_load) B.pre
  have hown : s.vm.findClass RX9 = some m.cls := findClass_of_methodNamed B.named
  have hlocks := B.notSynchronized
  subst hsz
  have hD := hD0.self (sz := s.heap.size)
  generalize hAe : va_A [(h0, .inr (8, [.int 0, .ref am, .ref ad, .ref ab, .int 0, .int 0, .ref ar, .int 0, .int 0, .int 2, .int 0, .int 0, .int 0, .ref az, .ref ae, .ref ao, .ref an, .ref au, .int 0, .int 0, .int 0, .ref ap, .ref aw, .int 0, .int 0, .int 0, .int 0, .int 0])), (aw, .inl (tw, 128, .inl (fun _ => 0)))] s.heap.size = A at hD ⊢
  have hA : ∀ q : Nat, s.heap.size ≤ q → A q := fun q h => by rw [← hAe]; exact Or.inr h
  have hS0 : ∀ G : Heap, s.heap = G → va_S A s.heap G [] := fun G h => by subst h; exact va_S.rf
  generalize hHe : s.heap = H at hP ⊢
  have hS := hS0 H hHe
  have hP : va_P (dC, dI) vwCl [(h0, .inr (8, [.int 0, .ref am, .ref ad, .ref ab, .int 0, .int 0, .ref ar, .int 0, .int 0, .int 2, .int 0, .int 0, .int 0, .ref az, .ref ae, .ref ao, .ref an, .ref au, .int 0, .int 0, .int 0, .ref ap, .ref aw, .int 0, .int 0, .int 0, .int 0, .int 0])), (aw, .inl (tw, 128, .inl (fun _ => 0)))] H := hP
  have hD : va_D A [(h0, .inr (8, [.int 0, .ref am, .ref ad, .ref ab, .int 0, .int 0, .ref ar, .int 0, .int 0, .int 2, .int 0, .int 0, .int 0, .ref az, .ref ae, .ref ao, .ref an, .ref au, .int 0, .int 0, .int 0, .ref ap, .ref aw, .int 0, .int 0, .int 0, .int 0, .int 0])), (aw, .inl (tw, 128, .inl (fun _ => 0)))] := hD
  have hK : va_K (dC, dI) vwCl [(tw, .int)] s := hK
  have hl := lv_entry ([.ref h0, .int p0, .int p1, .int p2]) (n := 4) (Nat.le_of_ble_eq_true rfl)
  rw [lg_entry_eq]
  generalize (lg_sl ([.ref h0, .int p0, .int p1, .int p2]) ++ List.replicate (4 - (lg_sl ([.ref h0, .int p0, .int p1, .int p2])).length) Slot.unset).toArray = ls at hl ⊢
  have hl : lv_has ls 4 [(0, .ref h0), (1, .int p0), (2, .int p1), (3, .int p2)] := hl
  have kk8 : (8 : Int32).toInt = 8 := by decide
  have kk16 : (16 : Int32).toInt = 16 := by decide
  refine lv_aload_n hx hb dX9_load_0 rfl (lv_at hl 0 rfl) ?_
  refine lv_iload_n hx hb dX9_load_1 rfl (lv_at hl 1 rfl) ?_
  refine lv_bipush (v := 8) hx hb dX9_load_2 (by decide) ?_
  have hPc := hP.sub (ws' := []) [] rfl
  have hDc := hD.sub (ws' := []) [] (by decide) rfl
  have hKc := hK.sub (tys' := []) [] rfl
  have hFc := va_free (wc := []) hD hS hA [] rfl
  refine va_calli (va_runS (As := [.int p0, .int 8]) (rest := [.ref h0]) ⟨hx, hb, hml, hown, hts⟩ (c_mout l dC dI p0 8 H.size) (va_cwS 2 hts gX9_load_X9_out rfl rfl rfl (by decide +kernel) ⟨Nat.le_of_ble_eq_true rfl, Nat.le_of_ble_eq_true rfl⟩) ⟨fun a U g mk q => by obtain ⟨q0, q1, qP, qK, qD⟩ := q; exact ⟨q0, q1, qP, va_K.moved (u := U) (U := U.calling g mk a) (Vm.Alike.refl U.vm) qK, qD⟩, fun U hU hW => ⟨rfl, by rw [hU], by rw [hU]; exact hPc, va_K.moved hW.alike hKc, hDc.weaken (fun _ _ _ _ => trivial)⟩⟩ rfl rfl hl.1 rfl (lv_room (Nat.le_of_ble_eq_true rfl)) dX9_load_4 ⟨Nat.le_of_ble_eq_true rfl, Nat.le_of_ble_eq_true rfl⟩) hS (fun q _ h => hFc q h) hFc (fun r1 u2 t H1 locs ht hvm hw hB hz1 hk1 hS => ?_)
  obtain ⟨hP1, hK1, hD1⟩ := hB
  rw [ht] at hP1
  have hK1 := va_K.moved hvm.symm hK1
  try dsimp only at hw
  obtain ⟨hP, hD⟩ := va_join (wr := [(h0, .inr (8, [.int 0, .ref am, .ref ad, .ref ab, .int 0, .int 0, .ref ar, .int 0, .int 0, .int 2, .int 0, .int 0, .int 0, .ref az, .ref ae, .ref ao, .ref an, .ref au, .int 0, .int 0, .int 0, .ref ap, .ref aw, .int 0, .int 0, .int 0, .int 0, .int 0])), (aw, .inl (tw, 128, .inl (fun _ => 0)))]) (w1 := []) hP hD [] [0, 1] rfl rfl (by decide) (by decide) hk1 hFc hP1 hD1
  have hK := (hK.sub (tys' := [(tw, .int)]) [0] rfl).app hK1
  generalize H1 = H at hP hS ⊢
  have hP : va_P (dC, dI) vwCl [(h0, .inr (8, [.int 0, .ref am, .ref ad, .ref ab, .int 0, .int 0, .ref ar, .int 0, .int 0, .int 2, .int 0, .int 0, .int 0, .ref az, .ref ae, .ref ao, .ref an, .ref au, .int 0, .int 0, .int 0, .ref ap, .ref aw, .int 0, .int 0, .int 0, .int 0, .int 0])), (aw, .inl (tw, 128, .inl (fun _ => 0)))] H := hP
  have hD : va_D A [(h0, .inr (8, [.int 0, .ref am, .ref ad, .ref ab, .int 0, .int 0, .ref ar, .int 0, .int 0, .int 2, .int 0, .int 0, .int 0, .ref az, .ref ae, .ref ao, .ref an, .ref au, .int 0, .int 0, .int 0, .ref ap, .ref aw, .int 0, .int 0, .int 0, .int 0, .int 0])), (aw, .inl (tw, 128, .inl (fun _ => 0)))] := hD
  have hK : va_K (dC, dI) vwCl [(tw, .int)] s := hK
  rcases hw with ⟨rfl, _, _⟩ | ⟨rfl, _⟩
  · skip
    refine lv_if_ne (tgt := 26) hx hb dX9_load_7 (by decide) (fun c3 => ?_) (fun c3 => ?_)
    · exact absurd c3 (by decide)
    · skip
      refine lv_iload_n hx hb dX9_load_10 rfl (lv_at hl 2 rfl) ?_
      refine lv_bipush (v := 16) hx hb dX9_load_11 (by decide) ?_
      have hPc := hP.sub (ws' := []) [] rfl
      have hDc := hD.sub (ws' := []) [] (by decide) rfl
      have hKc := hK.sub (tys' := []) [] rfl
      have hFc := va_free (wc := []) hD hS hA [] rfl
      refine va_calli (va_runS (As := [.int p1, .int 16]) (rest := [.ref h0]) ⟨hx, hb, hml, hown, hts⟩ (c_mout l dC dI p1 16 H.size) (va_cwS 2 hts gX9_load_X9_out rfl rfl rfl (by decide +kernel) ⟨Nat.le_of_ble_eq_true rfl, Nat.le_of_ble_eq_true rfl⟩) ⟨fun a U g mk q => by obtain ⟨q0, q1, qP, qK, qD⟩ := q; exact ⟨q0, q1, qP, va_K.moved (u := U) (U := U.calling g mk a) (Vm.Alike.refl U.vm) qK, qD⟩, fun U hU hW => ⟨rfl, by rw [hU], by rw [hU]; exact hPc, va_K.moved hW.alike hKc, hDc.weaken (fun _ _ _ _ => trivial)⟩⟩ rfl rfl hl.1 rfl (lv_room (Nat.le_of_ble_eq_true rfl)) dX9_load_13 ⟨Nat.le_of_ble_eq_true rfl, Nat.le_of_ble_eq_true rfl⟩) hS (fun q _ h => hFc q h) hFc (fun r4 u5 t H1 locs ht hvm hw hB hz1 hk1 hS => ?_)
      obtain ⟨hP1, hK1, hD1⟩ := hB
      rw [ht] at hP1
      have hK1 := va_K.moved hvm.symm hK1
      try dsimp only at hw
      obtain ⟨hP, hD⟩ := va_join (wr := [(h0, .inr (8, [.int 0, .ref am, .ref ad, .ref ab, .int 0, .int 0, .ref ar, .int 0, .int 0, .int 2, .int 0, .int 0, .int 0, .ref az, .ref ae, .ref ao, .ref an, .ref au, .int 0, .int 0, .int 0, .ref ap, .ref aw, .int 0, .int 0, .int 0, .int 0, .int 0])), (aw, .inl (tw, 128, .inl (fun _ => 0)))]) (w1 := []) hP hD [] [0, 1] rfl rfl (by decide) (by decide) hk1 hFc hP1 hD1
      have hK := (hK.sub (tys' := [(tw, .int)]) [0] rfl).app hK1
      generalize H1 = H at hP hS ⊢
      have hP : va_P (dC, dI) vwCl [(h0, .inr (8, [.int 0, .ref am, .ref ad, .ref ab, .int 0, .int 0, .ref ar, .int 0, .int 0, .int 2, .int 0, .int 0, .int 0, .ref az, .ref ae, .ref ao, .ref an, .ref au, .int 0, .int 0, .int 0, .ref ap, .ref aw, .int 0, .int 0, .int 0, .int 0, .int 0])), (aw, .inl (tw, 128, .inl (fun _ => 0)))] H := hP
      have hD : va_D A [(h0, .inr (8, [.int 0, .ref am, .ref ad, .ref ab, .int 0, .int 0, .ref ar, .int 0, .int 0, .int 2, .int 0, .int 0, .int 0, .ref az, .ref ae, .ref ao, .ref an, .ref au, .int 0, .int 0, .int 0, .ref ap, .ref aw, .int 0, .int 0, .int 0, .int 0, .int 0])), (aw, .inl (tw, 128, .inl (fun _ => 0)))] := hD
      have hK : va_K (dC, dI) vwCl [(tw, .int)] s := hK
      rcases hw with ⟨rfl, _, _⟩ | ⟨rfl, _⟩
      · skip
        refine lv_if_ne (tgt := 26) hx hb dX9_load_16 (by decide) (fun c6 => ?_) (fun c6 => ?_)
        · exact absurd c6 (by decide)
        · skip
          refine lv_iload_n hx hb dX9_load_19 rfl (lv_at hl 3 rfl) ?_
          have hPc := hP.sub (ws' := []) [] rfl
          have hDc := hD.sub (ws' := []) [] (by decide) rfl
          have hKc := hK.sub (tys' := []) [] rfl
          have hFc := va_free (wc := []) hD hS hA [] rfl
          refine va_calli (va_runS (As := [.int p2]) (rest := [.ref h0]) ⟨hx, hb, hml, hown, hts⟩ (c_misWord l dC dI p2 H.size) (va_cwS 1 hts gX9_load_X9_isWord rfl rfl rfl (by decide +kernel) ⟨Nat.le_of_ble_eq_true rfl, Nat.le_of_ble_eq_true rfl⟩) ⟨fun a U g mk q => by obtain ⟨q0, q1, qP, qK, qD⟩ := q; exact ⟨q0, q1, qP, va_K.moved (u := U) (U := U.calling g mk a) (Vm.Alike.refl U.vm) qK, qD⟩, fun U hU hW => ⟨rfl, by rw [hU], by rw [hU]; exact hPc, va_K.moved hW.alike hKc, hDc.weaken (fun _ _ _ _ => trivial)⟩⟩ rfl rfl hl.1 rfl (lv_room (Nat.le_of_ble_eq_true rfl)) dX9_load_20 ⟨Nat.le_of_ble_eq_true rfl, Nat.le_of_ble_eq_true rfl⟩) hS (fun q _ h => hFc q h) hFc (fun r7 u8 t H1 locs ht hvm hw hB hz1 hk1 hS => ?_)
          obtain ⟨hP1, hK1, hD1⟩ := hB
          rw [ht] at hP1
          have hK1 := va_K.moved hvm.symm hK1
          try dsimp only at hw
          obtain ⟨hP, hD⟩ := va_join (wr := [(h0, .inr (8, [.int 0, .ref am, .ref ad, .ref ab, .int 0, .int 0, .ref ar, .int 0, .int 0, .int 2, .int 0, .int 0, .int 0, .ref az, .ref ae, .ref ao, .ref an, .ref au, .int 0, .int 0, .int 0, .ref ap, .ref aw, .int 0, .int 0, .int 0, .int 0, .int 0])), (aw, .inl (tw, 128, .inl (fun _ => 0)))]) (w1 := []) hP hD [] [0, 1] rfl rfl (by decide) (by decide) hk1 hFc hP1 hD1
          have hK := (hK.sub (tys' := [(tw, .int)]) [0] rfl).app hK1
          generalize H1 = H at hP hS ⊢
          have hP : va_P (dC, dI) vwCl [(h0, .inr (8, [.int 0, .ref am, .ref ad, .ref ab, .int 0, .int 0, .ref ar, .int 0, .int 0, .int 2, .int 0, .int 0, .int 0, .ref az, .ref ae, .ref ao, .ref an, .ref au, .int 0, .int 0, .int 0, .ref ap, .ref aw, .int 0, .int 0, .int 0, .int 0, .int 0])), (aw, .inl (tw, 128, .inl (fun _ => 0)))] H := hP
          have hD : va_D A [(h0, .inr (8, [.int 0, .ref am, .ref ad, .ref ab, .int 0, .int 0, .ref ar, .int 0, .int 0, .int 2, .int 0, .int 0, .int 0, .ref az, .ref ae, .ref ao, .ref an, .ref au, .int 0, .int 0, .int 0, .ref ap, .ref aw, .int 0, .int 0, .int 0, .int 0, .int 0])), (aw, .inl (tw, 128, .inl (fun _ => 0)))] := hD
          have hK : va_K (dC, dI) vwCl [(tw, .int)] s := hK
          rcases hw with ⟨rfl, _, _⟩ | ⟨rfl, _⟩
          · skip
            refine lv_if_ne (tgt := 30) hx hb dX9_load_23 (by decide) (fun c9 => ?_) (fun c9 => ?_)
            · skip
              refine lv_iconst (v := 0) hx hb dX9_load_30 (by decide) ?_
              refine va_put (D := (dC, dI)) (ci := 8) (v := .int 0) (ty := .int) (C := RX9) (T := TX9) (N := 28) hx hb hts (by decide +kernel) tyX9 tyX9_ok nmX9 hown hK hP hD hS 0 rfl rfl 0 (by decide) (hts (.fieldLink RX9 48 "UnibusMachineModel" "thrown" "I") (by decide +kernel)) (fun _ h9 => h9) rfl (by decide +kernel) rfl rfl (Nat.le_of_ble_eq_true rfl) dX9_load_31 (fun H locs hP hD hS => ?_)
              have hP : va_P (dC, dI) vwCl [(h0, .inr (8, [.int 0, .ref am, .ref ad, .ref ab, .int 0, .int 0, .ref ar, .int 0, .int 0, .int 2, .int 0, .int 0, .int 0, .ref az, .ref ae, .ref ao, .ref an, .ref au, .int 0, .int 0, .int 0, .ref ap, .ref aw, .int 0, .int 0, .int 0, .int 0, .int 0])), (aw, .inl (tw, 128, .inl (fun _ => 0)))] H := hP
              have hD : va_D A [(h0, .inr (8, [.int 0, .ref am, .ref ad, .ref ab, .int 0, .int 0, .ref ar, .int 0, .int 0, .int 2, .int 0, .int 0, .int 0, .ref az, .ref ae, .ref ao, .ref an, .ref au, .int 0, .int 0, .int 0, .ref ap, .ref aw, .int 0, .int 0, .int 0, .int 0, .int 0])), (aw, .inl (tw, 128, .inl (fun _ => 0)))] := hD
              refine lv_aload_n hx hb dX9_load_34 rfl (lv_at hl 0 rfl) ?_
              refine va_get (D := (dC, dI)) (ci := 8) (v := .int 0) (C := RX9) (T := TX9) (N := 28) hx hb hts (by decide +kernel) hown hK hP 0 rfl rfl 0 (by decide) (hts (.fieldLink RX9 48 "UnibusMachineModel" "thrown" "I") (by decide +kernel)) (fun _ h9 => h9) rfl dX9_load_35 ?_
              refine lv_if_ne (tgt := 53) hx hb dX9_load_38 (by decide) (fun c10 => ?_) (fun c10 => ?_)
              · exact absurd c10 (by decide)
              · skip
                refine lv_aload_n hx hb dX9_load_41 rfl (lv_at hl 0 rfl) ?_
                refine va_get (D := (dC, dI)) (ci := 8) (v := .ref aw) (C := RX9) (T := TX9) (N := 28) hx hb hts (by decide +kernel) hown hK hP 0 rfl rfl 22 (by decide) (hts (.fieldLink RX9 45 "UnibusMachineModel" "sectors" "[I") (by decide +kernel)) (fun _ h9 => h9) rfl dX9_load_42 ?_
                refine lv_bipush (v := 16) hx hb dX9_load_45 (by decide) ?_
                refine lv_iload_n hx hb dX9_load_47 rfl (lv_at hl 1 rfl) ?_
                refine lv_imul hx hb dX9_load_48 ?_
                refine lv_iload_n hx hb dX9_load_49 rfl (lv_at hl 2 rfl) ?_
                refine lv_iadd hx hb dX9_load_50 ?_
                have f1 := fz_16 p0 p1 (by omega) (by omega) (by omega) (by omega)
                refine lv_iload_n hx hb dX9_load_51 rfl (lv_at hl 3 rfl) ?_
                refine va_iast (D := (dC, dI)) hx hb hK hP hD hS 1 0 rfl rfl (vp_in_iff.mpr (by constructor <;> omega)) dX9_load_52 (fun H locs hP hD hS => ?_)
                have hP : va_P (dC, dI) vwCl [(h0, .inr (8, [.int 0, .ref am, .ref ad, .ref ab, .int 0, .int 0, .ref ar, .int 0, .int 0, .int 2, .int 0, .int 0, .int 0, .ref az, .ref ae, .ref ao, .ref an, .ref au, .int 0, .int 0, .int 0, .ref ap, .ref aw, .int 0, .int 0, .int 0, .int 0, .int 0])), (aw, .inl (tw, 128, .inl (upd (fun _ => 0) ((16 * p0) + p1 : Int32).toNatClampNeg p2)))] H := hP
                have hD : va_D A [(h0, .inr (8, [.int 0, .ref am, .ref ad, .ref ab, .int 0, .int 0, .ref ar, .int 0, .int 0, .int 2, .int 0, .int 0, .int 0, .ref az, .ref ae, .ref ao, .ref an, .ref au, .int 0, .int 0, .int 0, .ref ap, .ref aw, .int 0, .int 0, .int 0, .int 0, .int 0])), (aw, .inl (tw, 128, .inl (upd (fun _ => 0) ((16 * p0) + p1 : Int32).toNatClampNeg p2)))] := hD
                have hP9 := hP.sub (ws' := [(h0, .inr (8, [.int 0, .ref am, .ref ad, .ref ab, .int 0, .int 0, .ref ar, .int 0, .int 0, .int 2, .int 0, .int 0, .int 0, .ref az, .ref ae, .ref ao, .ref an, .ref au, .int 0, .int 0, .int 0, .ref ap, .ref aw, .int 0, .int 0, .int 0, .int 0, .int 0]))]) [0] rfl
                have hD9 := hD.sub (ws' := [(h0, .inr (8, [.int 0, .ref am, .ref ad, .ref ab, .int 0, .int 0, .ref ar, .int 0, .int 0, .int 2, .int 0, .int 0, .int 0, .ref az, .ref ae, .ref ao, .ref an, .ref au, .int 0, .int 0, .int 0, .ref ap, .ref aw, .int 0, .int 0, .int 0, .int 0, .int 0]))]) [0] (by decide) rfl
                have hK9 := hK.sub (tys' := []) [] rfl
                exact W.vret hx hb hr (fun t ht hW => ⟨⟨0, rfl, (by first | (exact Or.inl ⟨rfl, by omega⟩) | (exact Or.inr ⟨rfl, by omega⟩)), [.ref am, .ref ad, .ref ab, .int 0, .int 0, .ref ar, .int 0, .int 0, .int 2, .int 0, .int 0, .int 0, .ref az, .ref ae, .ref ao, .ref an, .ref au, .int 0, .int 0, .int 0, .ref ap, .ref aw, .int 0, .int 0, .int 0, .int 0, .int 0], by rw [ht]; exact hP9, va_K.moved hW.alike hK9, hD9⟩, hS.F ht⟩) hS.2.2 dX9_load_53
            · exact absurd c9 (by decide)
          · skip
            refine lv_if_ne (tgt := 30) hx hb dX9_load_23 (by decide) (fun c11 => ?_) (fun c11 => ?_)
            · exact absurd c11 (by decide)
            · skip
              refine lv_iconst (v := 1) hx hb dX9_load_26 (by decide) ?_
              refine lv_goto (tgt := 31) hx hb dX9_load_27 (by decide) ?_
              refine va_put (D := (dC, dI)) (ci := 8) (v := .int 1) (ty := .int) (C := RX9) (T := TX9) (N := 28) hx hb hts (by decide +kernel) tyX9 tyX9_ok nmX9 hown hK hP hD hS 0 rfl rfl 0 (by decide) (hts (.fieldLink RX9 48 "UnibusMachineModel" "thrown" "I") (by decide +kernel)) (fun _ h9 => h9) rfl (by decide +kernel) rfl rfl (Nat.le_of_ble_eq_true rfl) dX9_load_31 (fun H locs hP hD hS => ?_)
              have hP : va_P (dC, dI) vwCl [(h0, .inr (8, [.int 1, .ref am, .ref ad, .ref ab, .int 0, .int 0, .ref ar, .int 0, .int 0, .int 2, .int 0, .int 0, .int 0, .ref az, .ref ae, .ref ao, .ref an, .ref au, .int 0, .int 0, .int 0, .ref ap, .ref aw, .int 0, .int 0, .int 0, .int 0, .int 0])), (aw, .inl (tw, 128, .inl (fun _ => 0)))] H := hP
              have hD : va_D A [(h0, .inr (8, [.int 1, .ref am, .ref ad, .ref ab, .int 0, .int 0, .ref ar, .int 0, .int 0, .int 2, .int 0, .int 0, .int 0, .ref az, .ref ae, .ref ao, .ref an, .ref au, .int 0, .int 0, .int 0, .ref ap, .ref aw, .int 0, .int 0, .int 0, .int 0, .int 0])), (aw, .inl (tw, 128, .inl (fun _ => 0)))] := hD
              refine lv_aload_n hx hb dX9_load_34 rfl (lv_at hl 0 rfl) ?_
              refine va_get (D := (dC, dI)) (ci := 8) (v := .int 1) (C := RX9) (T := TX9) (N := 28) hx hb hts (by decide +kernel) hown hK hP 0 rfl rfl 0 (by decide) (hts (.fieldLink RX9 48 "UnibusMachineModel" "thrown" "I") (by decide +kernel)) (fun _ h9 => h9) rfl dX9_load_35 ?_
              refine lv_if_ne (tgt := 53) hx hb dX9_load_38 (by decide) (fun c12 => ?_) (fun c12 => ?_)
              · skip
                have hP9 := hP.sub (ws' := [(h0, .inr (8, [.int 1, .ref am, .ref ad, .ref ab, .int 0, .int 0, .ref ar, .int 0, .int 0, .int 2, .int 0, .int 0, .int 0, .ref az, .ref ae, .ref ao, .ref an, .ref au, .int 0, .int 0, .int 0, .ref ap, .ref aw, .int 0, .int 0, .int 0, .int 0, .int 0]))]) [0] rfl
                have hD9 := hD.sub (ws' := [(h0, .inr (8, [.int 1, .ref am, .ref ad, .ref ab, .int 0, .int 0, .ref ar, .int 0, .int 0, .int 2, .int 0, .int 0, .int 0, .ref az, .ref ae, .ref ao, .ref an, .ref au, .int 0, .int 0, .int 0, .ref ap, .ref aw, .int 0, .int 0, .int 0, .int 0, .int 0]))]) [0] (by decide) rfl
                have hK9 := hK.sub (tys' := []) [] rfl
                exact W.vret hx hb hr (fun t ht hW => ⟨⟨1, rfl, (by first | (exact Or.inl ⟨rfl, by omega⟩) | (exact Or.inr ⟨rfl, by omega⟩)), [.ref am, .ref ad, .ref ab, .int 0, .int 0, .ref ar, .int 0, .int 0, .int 2, .int 0, .int 0, .int 0, .ref az, .ref ae, .ref ao, .ref an, .ref au, .int 0, .int 0, .int 0, .ref ap, .ref aw, .int 0, .int 0, .int 0, .int 0, .int 0], by rw [ht]; exact hP9, va_K.moved hW.alike hK9, hD9⟩, hS.F ht⟩) hS.2.2 dX9_load_53
              · exact absurd c12 (by decide)
      · skip
        refine lv_if_ne (tgt := 26) hx hb dX9_load_16 (by decide) (fun c13 => ?_) (fun c13 => ?_)
        · skip
          refine lv_iconst (v := 1) hx hb dX9_load_26 (by decide) ?_
          refine lv_goto (tgt := 31) hx hb dX9_load_27 (by decide) ?_
          refine va_put (D := (dC, dI)) (ci := 8) (v := .int 1) (ty := .int) (C := RX9) (T := TX9) (N := 28) hx hb hts (by decide +kernel) tyX9 tyX9_ok nmX9 hown hK hP hD hS 0 rfl rfl 0 (by decide) (hts (.fieldLink RX9 48 "UnibusMachineModel" "thrown" "I") (by decide +kernel)) (fun _ h9 => h9) rfl (by decide +kernel) rfl rfl (Nat.le_of_ble_eq_true rfl) dX9_load_31 (fun H locs hP hD hS => ?_)
          have hP : va_P (dC, dI) vwCl [(h0, .inr (8, [.int 1, .ref am, .ref ad, .ref ab, .int 0, .int 0, .ref ar, .int 0, .int 0, .int 2, .int 0, .int 0, .int 0, .ref az, .ref ae, .ref ao, .ref an, .ref au, .int 0, .int 0, .int 0, .ref ap, .ref aw, .int 0, .int 0, .int 0, .int 0, .int 0])), (aw, .inl (tw, 128, .inl (fun _ => 0)))] H := hP
          have hD : va_D A [(h0, .inr (8, [.int 1, .ref am, .ref ad, .ref ab, .int 0, .int 0, .ref ar, .int 0, .int 0, .int 2, .int 0, .int 0, .int 0, .ref az, .ref ae, .ref ao, .ref an, .ref au, .int 0, .int 0, .int 0, .ref ap, .ref aw, .int 0, .int 0, .int 0, .int 0, .int 0])), (aw, .inl (tw, 128, .inl (fun _ => 0)))] := hD
          refine lv_aload_n hx hb dX9_load_34 rfl (lv_at hl 0 rfl) ?_
          refine va_get (D := (dC, dI)) (ci := 8) (v := .int 1) (C := RX9) (T := TX9) (N := 28) hx hb hts (by decide +kernel) hown hK hP 0 rfl rfl 0 (by decide) (hts (.fieldLink RX9 48 "UnibusMachineModel" "thrown" "I") (by decide +kernel)) (fun _ h9 => h9) rfl dX9_load_35 ?_
          refine lv_if_ne (tgt := 53) hx hb dX9_load_38 (by decide) (fun c14 => ?_) (fun c14 => ?_)
          · skip
            have hP9 := hP.sub (ws' := [(h0, .inr (8, [.int 1, .ref am, .ref ad, .ref ab, .int 0, .int 0, .ref ar, .int 0, .int 0, .int 2, .int 0, .int 0, .int 0, .ref az, .ref ae, .ref ao, .ref an, .ref au, .int 0, .int 0, .int 0, .ref ap, .ref aw, .int 0, .int 0, .int 0, .int 0, .int 0]))]) [0] rfl
            have hD9 := hD.sub (ws' := [(h0, .inr (8, [.int 1, .ref am, .ref ad, .ref ab, .int 0, .int 0, .ref ar, .int 0, .int 0, .int 2, .int 0, .int 0, .int 0, .ref az, .ref ae, .ref ao, .ref an, .ref au, .int 0, .int 0, .int 0, .ref ap, .ref aw, .int 0, .int 0, .int 0, .int 0, .int 0]))]) [0] (by decide) rfl
            have hK9 := hK.sub (tys' := []) [] rfl
            exact W.vret hx hb hr (fun t ht hW => ⟨⟨1, rfl, (by first | (exact Or.inl ⟨rfl, by omega⟩) | (exact Or.inr ⟨rfl, by omega⟩)), [.ref am, .ref ad, .ref ab, .int 0, .int 0, .ref ar, .int 0, .int 0, .int 2, .int 0, .int 0, .int 0, .ref az, .ref ae, .ref ao, .ref an, .ref au, .int 0, .int 0, .int 0, .ref ap, .ref aw, .int 0, .int 0, .int 0, .int 0, .int 0], by rw [ht]; exact hP9, va_K.moved hW.alike hK9, hD9⟩, hS.F ht⟩) hS.2.2 dX9_load_53
          · exact absurd c14 (by decide)
        · exact absurd c13 (by decide)
  · skip
    refine lv_if_ne (tgt := 26) hx hb dX9_load_7 (by decide) (fun c15 => ?_) (fun c15 => ?_)
    · skip
      refine lv_iconst (v := 1) hx hb dX9_load_26 (by decide) ?_
      refine lv_goto (tgt := 31) hx hb dX9_load_27 (by decide) ?_
      refine va_put (D := (dC, dI)) (ci := 8) (v := .int 1) (ty := .int) (C := RX9) (T := TX9) (N := 28) hx hb hts (by decide +kernel) tyX9 tyX9_ok nmX9 hown hK hP hD hS 0 rfl rfl 0 (by decide) (hts (.fieldLink RX9 48 "UnibusMachineModel" "thrown" "I") (by decide +kernel)) (fun _ h9 => h9) rfl (by decide +kernel) rfl rfl (Nat.le_of_ble_eq_true rfl) dX9_load_31 (fun H locs hP hD hS => ?_)
      have hP : va_P (dC, dI) vwCl [(h0, .inr (8, [.int 1, .ref am, .ref ad, .ref ab, .int 0, .int 0, .ref ar, .int 0, .int 0, .int 2, .int 0, .int 0, .int 0, .ref az, .ref ae, .ref ao, .ref an, .ref au, .int 0, .int 0, .int 0, .ref ap, .ref aw, .int 0, .int 0, .int 0, .int 0, .int 0])), (aw, .inl (tw, 128, .inl (fun _ => 0)))] H := hP
      have hD : va_D A [(h0, .inr (8, [.int 1, .ref am, .ref ad, .ref ab, .int 0, .int 0, .ref ar, .int 0, .int 0, .int 2, .int 0, .int 0, .int 0, .ref az, .ref ae, .ref ao, .ref an, .ref au, .int 0, .int 0, .int 0, .ref ap, .ref aw, .int 0, .int 0, .int 0, .int 0, .int 0])), (aw, .inl (tw, 128, .inl (fun _ => 0)))] := hD
      refine lv_aload_n hx hb dX9_load_34 rfl (lv_at hl 0 rfl) ?_
      refine va_get (D := (dC, dI)) (ci := 8) (v := .int 1) (C := RX9) (T := TX9) (N := 28) hx hb hts (by decide +kernel) hown hK hP 0 rfl rfl 0 (by decide) (hts (.fieldLink RX9 48 "UnibusMachineModel" "thrown" "I") (by decide +kernel)) (fun _ h9 => h9) rfl dX9_load_35 ?_
      refine lv_if_ne (tgt := 53) hx hb dX9_load_38 (by decide) (fun c16 => ?_) (fun c16 => ?_)
      · skip
        have hP9 := hP.sub (ws' := [(h0, .inr (8, [.int 1, .ref am, .ref ad, .ref ab, .int 0, .int 0, .ref ar, .int 0, .int 0, .int 2, .int 0, .int 0, .int 0, .ref az, .ref ae, .ref ao, .ref an, .ref au, .int 0, .int 0, .int 0, .ref ap, .ref aw, .int 0, .int 0, .int 0, .int 0, .int 0]))]) [0] rfl
        have hD9 := hD.sub (ws' := [(h0, .inr (8, [.int 1, .ref am, .ref ad, .ref ab, .int 0, .int 0, .ref ar, .int 0, .int 0, .int 2, .int 0, .int 0, .int 0, .ref az, .ref ae, .ref ao, .ref an, .ref au, .int 0, .int 0, .int 0, .ref ap, .ref aw, .int 0, .int 0, .int 0, .int 0, .int 0]))]) [0] (by decide) rfl
        have hK9 := hK.sub (tys' := []) [] rfl
        exact W.vret hx hb hr (fun t ht hW => ⟨⟨1, rfl, (by first | (exact Or.inl ⟨rfl, by omega⟩) | (exact Or.inr ⟨rfl, by omega⟩)), [.ref am, .ref ad, .ref ab, .int 0, .int 0, .ref ar, .int 0, .int 0, .int 2, .int 0, .int 0, .int 0, .ref az, .ref ae, .ref ao, .ref an, .ref au, .int 0, .int 0, .int 0, .ref ap, .ref aw, .int 0, .int 0, .int 0, .int 0, .int 0], by rw [ht]; exact hP9, va_K.moved hW.alike hK9, hD9⟩, hS.F ht⟩) hS.2.2 dX9_load_53
      · exact absurd c16 (by decide)
    · exact absurd c15 (by decide)
set_option maxHeartbeats 4000000 in
set_option maxRecDepth 100000 in
theorem c_mdisk (l : Launch) (dC : Nat → ClassId) (dI : Nat → Nat → Nat) (h0 : Nat) (am : Nat) (ad : Nat) (ab : Nat) (ar : Nat) (az : Nat) (ae : Nat) (ao : Nat) (an : Nat) (au : Nat) (ap : Nat) (aw : Nat) (tw : ClassId) (p0 : Int32) (p1 : Int32) (sz : Nat) : Met l yX9_disk wsX9_disk ({ frames := 1, cells := 0, slots := 0, locals := 21 } : Room) (va_Pc [.ref h0, .int p0, .int p1] (fun U => U.heap.size = sz ∧ va_P (dC, dI) vwCl [(h0, .inr (8, [.int 0, .ref am, .ref ad, .ref ab, .int 0, .int 0, .ref ar, .int 0, .int 0, .int 2, .int 0, .int 0, .int 0, .ref az, .ref ae, .ref ao, .ref an, .ref au, .int 0, .int 0, .int 0, .ref ap, .ref aw, .int 0, .int 0, .int 0, .int 0, .int 0])), (aw, .inl (tw, 128, .inl (fun _ => 0)))] U.heap ∧ va_K (dC, dI) vwCl [(tw, .int)] U ∧ va_D (fun _ => True) [(h0, .inr (8, [.int 0, .ref am, .ref ad, .ref ab, .int 0, .int 0, .ref ar, .int 0, .int 0, .int 2, .int 0, .int 0, .int 0, .ref az, .ref ae, .ref ao, .ref an, .ref au, .int 0, .int 0, .int 0, .ref ap, .ref aw, .int 0, .int 0, .int 0, .int 0, .int 0])), (aw, .inl (tw, 128, .inl (fun _ => 0)))])) (va_Qi (fun (r : Int32) (u : Int32) => r = 0 ∧ ((u = 0 ∧ ((0 ≤ p0.toInt ∧ p0.toInt < 8 ∧ 0 ≤ p1.toInt ∧ p1.toInt < 16))) ∨ (u = 1 ∧ ¬ ((0 ≤ p0.toInt ∧ p0.toInt < 8 ∧ 0 ≤ p1.toInt ∧ p1.toInt < 16))))) (fun (u : Int32) (t : State) => ∃ (fs : List Value), va_P (dC, dI) vwCl [(h0, .inr (8, .int u :: fs))] t.heap ∧ va_K (dC, dI) vwCl [] t ∧ va_D (va_A [(h0, .inr (8, [.int 0, .ref am, .ref ad, .ref ab, .int 0, .int 0, .ref ar, .int 0, .int 0, .int 2, .int 0, .int 0, .int 0, .ref az, .ref ae, .ref ao, .ref an, .ref au, .int 0, .int 0, .int 0, .ref ap, .ref aw, .int 0, .int 0, .int 0, .int 0, .int 0])), (aw, .inl (tw, 128, .inl (fun _ => 0)))] sz) [(h0, .inr (8, .int u :: fs))]) (va_A [(h0, .inr (8, [.int 0, .ref am, .ref ad, .ref ab, .int 0, .int 0, .ref ar, .int 0, .int 0, .int 2, .int 0, .int 0, .int 0, .ref az, .ref ae, .ref ao, .ref an, .ref au, .int 0, .int 0, .int 0, .ref ap, .ref aw, .int 0, .int 0, .int 0, .int 0, .int 0])), (aw, .inl (tw, 128, .inl (fun _ => 0)))] sz)) 0 0 (va_A [(h0, .inr (8, [.int 0, .ref am, .ref ad, .ref ab, .int 0, .int 0, .ref ar, .int 0, .int 0, .int 2, .int 0, .int 0, .int 0, .ref az, .ref ae, .ref ao, .ref an, .ref au, .int 0, .int 0, .int 0, .ref ap, .ref aw, .int 0, .int 0, .int 0, .int 0, .int 0])), (aw, .inl (tw, 128, .inl (fun _ => 0)))] sz) := by
  refine Met.ofW (cc := cX9_disk) (maxL := 3) (ret := (some .int)) (by decide) rfl ?_
  intro p e s m args below meth c s₁ B hml hv
  obtain ⟨rfl, hsz, hP, hK, hD0⟩ := hv
  have hx := B.exec
  have hb := B.bytes
  have hr := B.returns
  have hts := atoms_spec (ws := wsX9_disk) B.pre
  have hown : s.vm.findClass RX9 = some m.cls := findClass_of_methodNamed B.named
  have hlocks := B.notSynchronized
  subst hsz
  have hD := hD0.self (sz := s.heap.size)
  generalize hAe : va_A [(h0, .inr (8, [.int 0, .ref am, .ref ad, .ref ab, .int 0, .int 0, .ref ar, .int 0, .int 0, .int 2, .int 0, .int 0, .int 0, .ref az, .ref ae, .ref ao, .ref an, .ref au, .int 0, .int 0, .int 0, .ref ap, .ref aw, .int 0, .int 0, .int 0, .int 0, .int 0])), (aw, .inl (tw, 128, .inl (fun _ => 0)))] s.heap.size = A at hD ⊢
  have hA : ∀ q : Nat, s.heap.size ≤ q → A q := fun q h => by rw [← hAe]; exact Or.inr h
  have hS0 : ∀ G : Heap, s.heap = G → va_S A s.heap G [] := fun G h => by subst h; exact va_S.rf
  generalize hHe : s.heap = H at hP ⊢
  have hS := hS0 H hHe
  have hP : va_P (dC, dI) vwCl [(h0, .inr (8, [.int 0, .ref am, .ref ad, .ref ab, .int 0, .int 0, .ref ar, .int 0, .int 0, .int 2, .int 0, .int 0, .int 0, .ref az, .ref ae, .ref ao, .ref an, .ref au, .int 0, .int 0, .int 0, .ref ap, .ref aw, .int 0, .int 0, .int 0, .int 0, .int 0])), (aw, .inl (tw, 128, .inl (fun _ => 0)))] H := hP
  have hD : va_D A [(h0, .inr (8, [.int 0, .ref am, .ref ad, .ref ab, .int 0, .int 0, .ref ar, .int 0, .int 0, .int 2, .int 0, .int 0, .int 0, .ref az, .ref ae, .ref ao, .ref an, .ref au, .int 0, .int 0, .int 0, .ref ap, .ref aw, .int 0, .int 0, .int 0, .int 0, .int 0])), (aw, .inl (tw, 128, .inl (fun _ => 0)))] := hD
  have hK : va_K (dC, dI) vwCl [(tw, .int)] s := hK
  have hl := lv_entry ([.ref h0, .int p0, .int p1]) (n := 3) (Nat.le_of_ble_eq_true rfl)
  rw [lg_entry_eq]
  generalize (lg_sl ([.ref h0, .int p0, .int p1]) ++ List.replicate (3 - (lg_sl ([.ref h0, .int p0, .int p1])).length) Slot.unset).toArray = ls at hl ⊢
  have hl : lv_has ls 3 [(0, .ref h0), (1, .int p0), (2, .int p1)] := hl
  have kk8 : (8 : Int32).toInt = 8 := by decide
  have kk16 : (16 : Int32).toInt = 16 := by decide
  refine lv_aload_n hx hb dX9_disk_0 rfl (lv_at hl 0 rfl) ?_
  refine lv_iconst (v := 0) hx hb dX9_disk_1 (by decide) ?_
  refine va_put (D := (dC, dI)) (ci := 8) (v := .int 0) (ty := .int) (C := RX9) (T := TX9) (N := 28) hx hb hts (by decide +kernel) tyX9 tyX9_ok nmX9 hown hK hP hD hS 0 rfl rfl 0 (by decide) (hts (.fieldLink RX9 48 "UnibusMachineModel" "thrown" "I") (by decide +kernel)) (fun _ h9 => h9) rfl (by decide +kernel) rfl rfl (Nat.le_of_ble_eq_true rfl) dX9_disk_2 (fun H locs hP hD hS => ?_)
  have hP : va_P (dC, dI) vwCl [(h0, .inr (8, [.int 0, .ref am, .ref ad, .ref ab, .int 0, .int 0, .ref ar, .int 0, .int 0, .int 2, .int 0, .int 0, .int 0, .ref az, .ref ae, .ref ao, .ref an, .ref au, .int 0, .int 0, .int 0, .ref ap, .ref aw, .int 0, .int 0, .int 0, .int 0, .int 0])), (aw, .inl (tw, 128, .inl (fun _ => 0)))] H := hP
  have hD : va_D A [(h0, .inr (8, [.int 0, .ref am, .ref ad, .ref ab, .int 0, .int 0, .ref ar, .int 0, .int 0, .int 2, .int 0, .int 0, .int 0, .ref az, .ref ae, .ref ao, .ref an, .ref au, .int 0, .int 0, .int 0, .ref ap, .ref aw, .int 0, .int 0, .int 0, .int 0, .int 0])), (aw, .inl (tw, 128, .inl (fun _ => 0)))] := hD
  refine lv_iload_n hx hb dX9_disk_5 rfl (lv_at hl 1 rfl) ?_
  refine lv_bipush (v := 8) hx hb dX9_disk_6 (by decide) ?_
  have hPc := hP.sub (ws' := []) [] rfl
  have hDc := hD.sub (ws' := []) [] (by decide) rfl
  have hKc := hK.sub (tys' := []) [] rfl
  have hFc := va_free (wc := []) hD hS hA [] rfl
  refine va_calli (va_runS (As := [.int p0, .int 8]) (rest := []) ⟨hx, hb, hml, hown, hts⟩ (c_mout l dC dI p0 8 H.size) (va_cwS 2 hts gX9_disk_X9_out rfl rfl rfl (by decide +kernel) ⟨Nat.le_of_ble_eq_true rfl, Nat.le_of_ble_eq_true rfl⟩) ⟨fun a U g mk q => by obtain ⟨q0, q1, qP, qK, qD⟩ := q; exact ⟨q0, q1, qP, va_K.moved (u := U) (U := U.calling g mk a) (Vm.Alike.refl U.vm) qK, qD⟩, fun U hU hW => ⟨rfl, by rw [hU], by rw [hU]; exact hPc, va_K.moved hW.alike hKc, hDc.weaken (fun _ _ _ _ => trivial)⟩⟩ rfl rfl hl.1 rfl (lv_room (Nat.le_of_ble_eq_true rfl)) dX9_disk_8 ⟨Nat.le_of_ble_eq_true rfl, Nat.le_of_ble_eq_true rfl⟩) hS (fun q _ h => hFc q h) hFc (fun r1 u2 t H1 locs ht hvm hw hB hz1 hk1 hS => ?_)
  obtain ⟨hP1, hK1, hD1⟩ := hB
  rw [ht] at hP1
  have hK1 := va_K.moved hvm.symm hK1
  try dsimp only at hw
  obtain ⟨hP, hD⟩ := va_join (wr := [(h0, .inr (8, [.int 0, .ref am, .ref ad, .ref ab, .int 0, .int 0, .ref ar, .int 0, .int 0, .int 2, .int 0, .int 0, .int 0, .ref az, .ref ae, .ref ao, .ref an, .ref au, .int 0, .int 0, .int 0, .ref ap, .ref aw, .int 0, .int 0, .int 0, .int 0, .int 0])), (aw, .inl (tw, 128, .inl (fun _ => 0)))]) (w1 := []) hP hD [] [0, 1] rfl rfl (by decide) (by decide) hk1 hFc hP1 hD1
  have hK := (hK.sub (tys' := [(tw, .int)]) [0] rfl).app hK1
  generalize H1 = H at hP hS ⊢
  have hP : va_P (dC, dI) vwCl [(h0, .inr (8, [.int 0, .ref am, .ref ad, .ref ab, .int 0, .int 0, .ref ar, .int 0, .int 0, .int 2, .int 0, .int 0, .int 0, .ref az, .ref ae, .ref ao, .ref an, .ref au, .int 0, .int 0, .int 0, .ref ap, .ref aw, .int 0, .int 0, .int 0, .int 0, .int 0])), (aw, .inl (tw, 128, .inl (fun _ => 0)))] H := hP
  have hD : va_D A [(h0, .inr (8, [.int 0, .ref am, .ref ad, .ref ab, .int 0, .int 0, .ref ar, .int 0, .int 0, .int 2, .int 0, .int 0, .int 0, .ref az, .ref ae, .ref ao, .ref an, .ref au, .int 0, .int 0, .int 0, .ref ap, .ref aw, .int 0, .int 0, .int 0, .int 0, .int 0])), (aw, .inl (tw, 128, .inl (fun _ => 0)))] := hD
  have hK : va_K (dC, dI) vwCl [(tw, .int)] s := hK
  rcases hw with ⟨rfl, _, _⟩ | ⟨rfl, _⟩
  · skip
    refine lv_if_ne (tgt := 23) hx hb dX9_disk_11 (by decide) (fun c3 => ?_) (fun c3 => ?_)
    · exact absurd c3 (by decide)
    · skip
      refine lv_iload_n hx hb dX9_disk_14 rfl (lv_at hl 2 rfl) ?_
      refine lv_bipush (v := 16) hx hb dX9_disk_15 (by decide) ?_
      have hPc := hP.sub (ws' := []) [] rfl
      have hDc := hD.sub (ws' := []) [] (by decide) rfl
      have hKc := hK.sub (tys' := []) [] rfl
      have hFc := va_free (wc := []) hD hS hA [] rfl
      refine va_calli (va_runS (As := [.int p1, .int 16]) (rest := []) ⟨hx, hb, hml, hown, hts⟩ (c_mout l dC dI p1 16 H.size) (va_cwS 2 hts gX9_disk_X9_out rfl rfl rfl (by decide +kernel) ⟨Nat.le_of_ble_eq_true rfl, Nat.le_of_ble_eq_true rfl⟩) ⟨fun a U g mk q => by obtain ⟨q0, q1, qP, qK, qD⟩ := q; exact ⟨q0, q1, qP, va_K.moved (u := U) (U := U.calling g mk a) (Vm.Alike.refl U.vm) qK, qD⟩, fun U hU hW => ⟨rfl, by rw [hU], by rw [hU]; exact hPc, va_K.moved hW.alike hKc, hDc.weaken (fun _ _ _ _ => trivial)⟩⟩ rfl rfl hl.1 rfl (lv_room (Nat.le_of_ble_eq_true rfl)) dX9_disk_17 ⟨Nat.le_of_ble_eq_true rfl, Nat.le_of_ble_eq_true rfl⟩) hS (fun q _ h => hFc q h) hFc (fun r4 u5 t H1 locs ht hvm hw hB hz1 hk1 hS => ?_)
      obtain ⟨hP1, hK1, hD1⟩ := hB
      rw [ht] at hP1
      have hK1 := va_K.moved hvm.symm hK1
      try dsimp only at hw
      obtain ⟨hP, hD⟩ := va_join (wr := [(h0, .inr (8, [.int 0, .ref am, .ref ad, .ref ab, .int 0, .int 0, .ref ar, .int 0, .int 0, .int 2, .int 0, .int 0, .int 0, .ref az, .ref ae, .ref ao, .ref an, .ref au, .int 0, .int 0, .int 0, .ref ap, .ref aw, .int 0, .int 0, .int 0, .int 0, .int 0])), (aw, .inl (tw, 128, .inl (fun _ => 0)))]) (w1 := []) hP hD [] [0, 1] rfl rfl (by decide) (by decide) hk1 hFc hP1 hD1
      have hK := (hK.sub (tys' := [(tw, .int)]) [0] rfl).app hK1
      generalize H1 = H at hP hS ⊢
      have hP : va_P (dC, dI) vwCl [(h0, .inr (8, [.int 0, .ref am, .ref ad, .ref ab, .int 0, .int 0, .ref ar, .int 0, .int 0, .int 2, .int 0, .int 0, .int 0, .ref az, .ref ae, .ref ao, .ref an, .ref au, .int 0, .int 0, .int 0, .ref ap, .ref aw, .int 0, .int 0, .int 0, .int 0, .int 0])), (aw, .inl (tw, 128, .inl (fun _ => 0)))] H := hP
      have hD : va_D A [(h0, .inr (8, [.int 0, .ref am, .ref ad, .ref ab, .int 0, .int 0, .ref ar, .int 0, .int 0, .int 2, .int 0, .int 0, .int 0, .ref az, .ref ae, .ref ao, .ref an, .ref au, .int 0, .int 0, .int 0, .ref ap, .ref aw, .int 0, .int 0, .int 0, .int 0, .int 0])), (aw, .inl (tw, 128, .inl (fun _ => 0)))] := hD
      have hK : va_K (dC, dI) vwCl [(tw, .int)] s := hK
      rcases hw with ⟨rfl, _, _⟩ | ⟨rfl, _⟩
      · skip
        refine lv_if_eq (tgt := 31) hx hb dX9_disk_20 (by decide) (fun c6 => ?_) (fun c6 => ?_)
        · skip
          refine lv_aload_n hx hb dX9_disk_31 rfl (lv_at hl 0 rfl) ?_
          refine va_get (D := (dC, dI)) (ci := 8) (v := .ref aw) (C := RX9) (T := TX9) (N := 28) hx hb hts (by decide +kernel) hown hK hP 0 rfl rfl 22 (by decide) (hts (.fieldLink RX9 45 "UnibusMachineModel" "sectors" "[I") (by decide +kernel)) (fun _ h9 => h9) rfl dX9_disk_32 ?_
          refine lv_bipush (v := 16) hx hb dX9_disk_35 (by decide) ?_
          refine lv_iload_n hx hb dX9_disk_37 rfl (lv_at hl 1 rfl) ?_
          refine lv_imul hx hb dX9_disk_38 ?_
          refine lv_iload_n hx hb dX9_disk_39 rfl (lv_at hl 2 rfl) ?_
          refine lv_iadd hx hb dX9_disk_40 ?_
          have f1 := fz_16 p0 p1 (by omega) (by omega) (by omega) (by omega)
          refine va_iald (D := (dC, dI)) hx hb hK hP 1 0 rfl rfl (vp_in_iff.mpr (by constructor <;> omega)) dX9_disk_41 ?_
          have hP9 := hP.sub (ws' := [(h0, .inr (8, [.int 0, .ref am, .ref ad, .ref ab, .int 0, .int 0, .ref ar, .int 0, .int 0, .int 2, .int 0, .int 0, .int 0, .ref az, .ref ae, .ref ao, .ref an, .ref au, .int 0, .int 0, .int 0, .ref ap, .ref aw, .int 0, .int 0, .int 0, .int 0, .int 0]))]) [0] rfl
          have hD9 := hD.sub (ws' := [(h0, .inr (8, [.int 0, .ref am, .ref ad, .ref ab, .int 0, .int 0, .ref ar, .int 0, .int 0, .int 2, .int 0, .int 0, .int 0, .ref az, .ref ae, .ref ao, .ref an, .ref au, .int 0, .int 0, .int 0, .ref ap, .ref aw, .int 0, .int 0, .int 0, .int 0, .int 0]))]) [0] (by decide) rfl
          have hK9 := hK.sub (tys' := []) [] rfl
          exact W.iret (v := 0) hx hb hr (fun t ht hW => ⟨⟨0, 0, rfl, ⟨rfl, (by first | (exact Or.inl ⟨rfl, by omega⟩) | (exact Or.inr ⟨rfl, by omega⟩))⟩, [.ref am, .ref ad, .ref ab, .int 0, .int 0, .ref ar, .int 0, .int 0, .int 2, .int 0, .int 0, .int 0, .ref az, .ref ae, .ref ao, .ref an, .ref au, .int 0, .int 0, .int 0, .ref ap, .ref aw, .int 0, .int 0, .int 0, .int 0, .int 0], by rw [ht]; exact hP9, va_K.moved hW.alike hK9, hD9⟩, hS.F ht⟩) hS.2.2 dX9_disk_42
        · exact absurd c6 (by decide)
      · skip
        refine lv_if_eq (tgt := 31) hx hb dX9_disk_20 (by decide) (fun c7 => ?_) (fun c7 => ?_)
        · exact absurd c7 (by decide)
        · skip
          refine lv_aload_n hx hb dX9_disk_23 rfl (lv_at hl 0 rfl) ?_
          refine lv_iconst (v := 1) hx hb dX9_disk_24 (by decide) ?_
          have hPc := hP.sub (ws' := [(h0, .inr (8, [.int 0, .ref am, .ref ad, .ref ab, .int 0, .int 0, .ref ar, .int 0, .int 0, .int 2, .int 0, .int 0, .int 0, .ref az, .ref ae, .ref ao, .ref an, .ref au, .int 0, .int 0, .int 0, .ref ap, .ref aw, .int 0, .int 0, .int 0, .int 0, .int 0]))]) [0] rfl
          have hDc := hD.sub (ws' := [(h0, .inr (8, [.int 0, .ref am, .ref ad, .ref ab, .int 0, .int 0, .ref ar, .int 0, .int 0, .int 2, .int 0, .int 0, .int 0, .ref az, .ref ae, .ref ao, .ref an, .ref au, .int 0, .int 0, .int 0, .ref ap, .ref aw, .int 0, .int 0, .int 0, .int 0, .int 0]))]) [0] (by decide) rfl
          have hKc := hK.sub (tys' := []) [] rfl
          have hFc := va_free (wc := [(h0, .inr (8, [.int 0, .ref am, .ref ad, .ref ab, .int 0, .int 0, .ref ar, .int 0, .int 0, .int 2, .int 0, .int 0, .int 0, .ref az, .ref ae, .ref ao, .ref an, .ref au, .int 0, .int 0, .int 0, .ref ap, .ref aw, .int 0, .int 0, .int 0, .int 0, .int 0]))]) hD hS hA [0] rfl
          refine va_calli (va_runV (As := [.int 1]) (rest := []) ⟨hx, hb, hml, hown, hts⟩ (c_mfail l dC dI h0 0 ([.ref am, .ref ad, .ref ab, .int 0, .int 0, .ref ar, .int 0, .int 0, .int 2, .int 0, .int 0, .int 0, .ref az, .ref ae, .ref ao, .ref an, .ref au, .int 0, .int 0, .int 0, .ref ap, .ref aw, .int 0, .int 0, .int 0, .int 0, .int 0]) H.size) (cwV 1 hts gX9_disk_X9_fail rfl rfl rfl (by decide +kernel) ⟨Nat.le_of_ble_eq_true rfl, Nat.le_of_ble_eq_true rfl⟩) ⟨fun a U g mk q => by obtain ⟨q0, q1, qP, qK, qD⟩ := q; exact ⟨q0, q1, qP, va_K.moved (u := U) (U := U.calling g mk a) (Vm.Alike.refl U.vm) qK, qD⟩, va_recv hKc hPc (ci := 8) (q0 := 0) rfl rfl, fun U hU hW => ⟨rfl, by rw [hU], by rw [hU]; exact hPc, va_K.moved hW.alike hKc, hDc.weaken (fun _ _ _ _ => trivial)⟩⟩ rfl rfl hl.1 rfl (lv_room (Nat.le_of_ble_eq_true rfl)) dX9_disk_25 ⟨Nat.le_of_ble_eq_true rfl, Nat.le_of_ble_eq_true rfl⟩) hS (fun q _ h => hFc q h) hFc (fun r8 u9 t H1 locs ht hvm hw hB hz1 hk1 hS => ?_)
          obtain ⟨hP1, hK1, hD1⟩ := hB
          rw [ht] at hP1
          have hK1 := va_K.moved hvm.symm hK1
          try dsimp only at hw
          obtain ⟨hP, hD⟩ := va_join (wr := [(aw, .inl (tw, 128, .inl (fun _ => 0)))]) (w1 := [(h0, .inr (8, [.int 1, .ref am, .ref ad, .ref ab, .int 0, .int 0, .ref ar, .int 0, .int 0, .int 2, .int 0, .int 0, .int 0, .ref az, .ref ae, .ref ao, .ref an, .ref au, .int 0, .int 0, .int 0, .ref ap, .ref aw, .int 0, .int 0, .int 0, .int 0, .int 0]))]) hP hD [0] [1] rfl rfl (by decide) (by decide) hk1 hFc hP1 hD1
          have hK := (hK.sub (tys' := [(tw, .int)]) [0] rfl).app hK1
          generalize H1 = H at hP hS ⊢
          have hP : va_P (dC, dI) vwCl [(aw, .inl (tw, 128, .inl (fun _ => 0))), (h0, .inr (8, [.int 1, .ref am, .ref ad, .ref ab, .int 0, .int 0, .ref ar, .int 0, .int 0, .int 2, .int 0, .int 0, .int 0, .ref az, .ref ae, .ref ao, .ref an, .ref au, .int 0, .int 0, .int 0, .ref ap, .ref aw, .int 0, .int 0, .int 0, .int 0, .int 0]))] H := hP
          have hD : va_D A [(aw, .inl (tw, 128, .inl (fun _ => 0))), (h0, .inr (8, [.int 1, .ref am, .ref ad, .ref ab, .int 0, .int 0, .ref ar, .int 0, .int 0, .int 2, .int 0, .int 0, .int 0, .ref az, .ref ae, .ref ao, .ref an, .ref au, .int 0, .int 0, .int 0, .ref ap, .ref aw, .int 0, .int 0, .int 0, .int 0, .int 0]))] := hD
          have hK : va_K (dC, dI) vwCl [(tw, .int)] s := hK
          obtain rfl := hw
          have hP : va_P (dC, dI) vwCl [(aw, .inl (tw, 128, .inl (fun _ => 0))), (h0, .inr (8, [.int 1, .ref am, .ref ad, .ref ab, .int 0, .int 0, .ref ar, .int 0, .int 0, .int 2, .int 0, .int 0, .int 0, .ref az, .ref ae, .ref ao, .ref an, .ref au, .int 0, .int 0, .int 0, .ref ap, .ref aw, .int 0, .int 0, .int 0, .int 0, .int 0]))] H := hP
          have hD : va_D A [(aw, .inl (tw, 128, .inl (fun _ => 0))), (h0, .inr (8, [.int 1, .ref am, .ref ad, .ref ab, .int 0, .int 0, .ref ar, .int 0, .int 0, .int 2, .int 0, .int 0, .int 0, .ref az, .ref ae, .ref ao, .ref an, .ref au, .int 0, .int 0, .int 0, .ref ap, .ref aw, .int 0, .int 0, .int 0, .int 0, .int 0]))] := hD
          refine lv_goto (tgt := 42) hx hb dX9_disk_28 (by decide) ?_
          have hP9 := hP.sub (ws' := [(h0, .inr (8, [.int 1, .ref am, .ref ad, .ref ab, .int 0, .int 0, .ref ar, .int 0, .int 0, .int 2, .int 0, .int 0, .int 0, .ref az, .ref ae, .ref ao, .ref an, .ref au, .int 0, .int 0, .int 0, .ref ap, .ref aw, .int 0, .int 0, .int 0, .int 0, .int 0]))]) [1] rfl
          have hD9 := hD.sub (ws' := [(h0, .inr (8, [.int 1, .ref am, .ref ad, .ref ab, .int 0, .int 0, .ref ar, .int 0, .int 0, .int 2, .int 0, .int 0, .int 0, .ref az, .ref ae, .ref ao, .ref an, .ref au, .int 0, .int 0, .int 0, .ref ap, .ref aw, .int 0, .int 0, .int 0, .int 0, .int 0]))]) [1] (by decide) rfl
          have hK9 := hK.sub (tys' := []) [] rfl
          exact W.iret (v := 0) hx hb hr (fun t ht hW => ⟨⟨0, 1, rfl, ⟨rfl, (by first | (exact Or.inl ⟨rfl, by omega⟩) | (exact Or.inr ⟨rfl, by omega⟩))⟩, [.ref am, .ref ad, .ref ab, .int 0, .int 0, .ref ar, .int 0, .int 0, .int 2, .int 0, .int 0, .int 0, .ref az, .ref ae, .ref ao, .ref an, .ref au, .int 0, .int 0, .int 0, .ref ap, .ref aw, .int 0, .int 0, .int 0, .int 0, .int 0], by rw [ht]; exact hP9, va_K.moved hW.alike hK9, hD9⟩, hS.F ht⟩) hS.2.2 dX9_disk_42
  · skip
    refine lv_if_ne (tgt := 23) hx hb dX9_disk_11 (by decide) (fun c10 => ?_) (fun c10 => ?_)
    · skip
      refine lv_aload_n hx hb dX9_disk_23 rfl (lv_at hl 0 rfl) ?_
      refine lv_iconst (v := 1) hx hb dX9_disk_24 (by decide) ?_
      have hPc := hP.sub (ws' := [(h0, .inr (8, [.int 0, .ref am, .ref ad, .ref ab, .int 0, .int 0, .ref ar, .int 0, .int 0, .int 2, .int 0, .int 0, .int 0, .ref az, .ref ae, .ref ao, .ref an, .ref au, .int 0, .int 0, .int 0, .ref ap, .ref aw, .int 0, .int 0, .int 0, .int 0, .int 0]))]) [0] rfl
      have hDc := hD.sub (ws' := [(h0, .inr (8, [.int 0, .ref am, .ref ad, .ref ab, .int 0, .int 0, .ref ar, .int 0, .int 0, .int 2, .int 0, .int 0, .int 0, .ref az, .ref ae, .ref ao, .ref an, .ref au, .int 0, .int 0, .int 0, .ref ap, .ref aw, .int 0, .int 0, .int 0, .int 0, .int 0]))]) [0] (by decide) rfl
      have hKc := hK.sub (tys' := []) [] rfl
      have hFc := va_free (wc := [(h0, .inr (8, [.int 0, .ref am, .ref ad, .ref ab, .int 0, .int 0, .ref ar, .int 0, .int 0, .int 2, .int 0, .int 0, .int 0, .ref az, .ref ae, .ref ao, .ref an, .ref au, .int 0, .int 0, .int 0, .ref ap, .ref aw, .int 0, .int 0, .int 0, .int 0, .int 0]))]) hD hS hA [0] rfl
      refine va_calli (va_runV (As := [.int 1]) (rest := []) ⟨hx, hb, hml, hown, hts⟩ (c_mfail l dC dI h0 0 ([.ref am, .ref ad, .ref ab, .int 0, .int 0, .ref ar, .int 0, .int 0, .int 2, .int 0, .int 0, .int 0, .ref az, .ref ae, .ref ao, .ref an, .ref au, .int 0, .int 0, .int 0, .ref ap, .ref aw, .int 0, .int 0, .int 0, .int 0, .int 0]) H.size) (cwV 1 hts gX9_disk_X9_fail rfl rfl rfl (by decide +kernel) ⟨Nat.le_of_ble_eq_true rfl, Nat.le_of_ble_eq_true rfl⟩) ⟨fun a U g mk q => by obtain ⟨q0, q1, qP, qK, qD⟩ := q; exact ⟨q0, q1, qP, va_K.moved (u := U) (U := U.calling g mk a) (Vm.Alike.refl U.vm) qK, qD⟩, va_recv hKc hPc (ci := 8) (q0 := 0) rfl rfl, fun U hU hW => ⟨rfl, by rw [hU], by rw [hU]; exact hPc, va_K.moved hW.alike hKc, hDc.weaken (fun _ _ _ _ => trivial)⟩⟩ rfl rfl hl.1 rfl (lv_room (Nat.le_of_ble_eq_true rfl)) dX9_disk_25 ⟨Nat.le_of_ble_eq_true rfl, Nat.le_of_ble_eq_true rfl⟩) hS (fun q _ h => hFc q h) hFc (fun r11 u12 t H1 locs ht hvm hw hB hz1 hk1 hS => ?_)
      obtain ⟨hP1, hK1, hD1⟩ := hB
      rw [ht] at hP1
      have hK1 := va_K.moved hvm.symm hK1
      try dsimp only at hw
      obtain ⟨hP, hD⟩ := va_join (wr := [(aw, .inl (tw, 128, .inl (fun _ => 0)))]) (w1 := [(h0, .inr (8, [.int 1, .ref am, .ref ad, .ref ab, .int 0, .int 0, .ref ar, .int 0, .int 0, .int 2, .int 0, .int 0, .int 0, .ref az, .ref ae, .ref ao, .ref an, .ref au, .int 0, .int 0, .int 0, .ref ap, .ref aw, .int 0, .int 0, .int 0, .int 0, .int 0]))]) hP hD [0] [1] rfl rfl (by decide) (by decide) hk1 hFc hP1 hD1
      have hK := (hK.sub (tys' := [(tw, .int)]) [0] rfl).app hK1
      generalize H1 = H at hP hS ⊢
      have hP : va_P (dC, dI) vwCl [(aw, .inl (tw, 128, .inl (fun _ => 0))), (h0, .inr (8, [.int 1, .ref am, .ref ad, .ref ab, .int 0, .int 0, .ref ar, .int 0, .int 0, .int 2, .int 0, .int 0, .int 0, .ref az, .ref ae, .ref ao, .ref an, .ref au, .int 0, .int 0, .int 0, .ref ap, .ref aw, .int 0, .int 0, .int 0, .int 0, .int 0]))] H := hP
      have hD : va_D A [(aw, .inl (tw, 128, .inl (fun _ => 0))), (h0, .inr (8, [.int 1, .ref am, .ref ad, .ref ab, .int 0, .int 0, .ref ar, .int 0, .int 0, .int 2, .int 0, .int 0, .int 0, .ref az, .ref ae, .ref ao, .ref an, .ref au, .int 0, .int 0, .int 0, .ref ap, .ref aw, .int 0, .int 0, .int 0, .int 0, .int 0]))] := hD
      have hK : va_K (dC, dI) vwCl [(tw, .int)] s := hK
      obtain rfl := hw
      have hP : va_P (dC, dI) vwCl [(aw, .inl (tw, 128, .inl (fun _ => 0))), (h0, .inr (8, [.int 1, .ref am, .ref ad, .ref ab, .int 0, .int 0, .ref ar, .int 0, .int 0, .int 2, .int 0, .int 0, .int 0, .ref az, .ref ae, .ref ao, .ref an, .ref au, .int 0, .int 0, .int 0, .ref ap, .ref aw, .int 0, .int 0, .int 0, .int 0, .int 0]))] H := hP
      have hD : va_D A [(aw, .inl (tw, 128, .inl (fun _ => 0))), (h0, .inr (8, [.int 1, .ref am, .ref ad, .ref ab, .int 0, .int 0, .ref ar, .int 0, .int 0, .int 2, .int 0, .int 0, .int 0, .ref az, .ref ae, .ref ao, .ref an, .ref au, .int 0, .int 0, .int 0, .ref ap, .ref aw, .int 0, .int 0, .int 0, .int 0, .int 0]))] := hD
      refine lv_goto (tgt := 42) hx hb dX9_disk_28 (by decide) ?_
      have hP9 := hP.sub (ws' := [(h0, .inr (8, [.int 1, .ref am, .ref ad, .ref ab, .int 0, .int 0, .ref ar, .int 0, .int 0, .int 2, .int 0, .int 0, .int 0, .ref az, .ref ae, .ref ao, .ref an, .ref au, .int 0, .int 0, .int 0, .ref ap, .ref aw, .int 0, .int 0, .int 0, .int 0, .int 0]))]) [1] rfl
      have hD9 := hD.sub (ws' := [(h0, .inr (8, [.int 1, .ref am, .ref ad, .ref ab, .int 0, .int 0, .ref ar, .int 0, .int 0, .int 2, .int 0, .int 0, .int 0, .ref az, .ref ae, .ref ao, .ref an, .ref au, .int 0, .int 0, .int 0, .ref ap, .ref aw, .int 0, .int 0, .int 0, .int 0, .int 0]))]) [1] (by decide) rfl
      have hK9 := hK.sub (tys' := []) [] rfl
      exact W.iret (v := 0) hx hb hr (fun t ht hW => ⟨⟨0, 1, rfl, ⟨rfl, (by first | (exact Or.inl ⟨rfl, by omega⟩) | (exact Or.inr ⟨rfl, by omega⟩))⟩, [.ref am, .ref ad, .ref ab, .int 0, .int 0, .ref ar, .int 0, .int 0, .int 2, .int 0, .int 0, .int 0, .ref az, .ref ae, .ref ao, .ref an, .ref au, .int 0, .int 0, .int 0, .ref ap, .ref aw, .int 0, .int 0, .int 0, .int 0, .int 0], by rw [ht]; exact hP9, va_K.moved hW.alike hK9, hD9⟩, hS.F ht⟩) hS.2.2 dX9_disk_42
    · exact absurd c10 (by decide)
set_option maxHeartbeats 4000000 in
set_option maxRecDepth 100000 in
theorem c_mstatusOf0 (l : Launch) (dC : Nat → ClassId) (dI : Nat → Nat → Nat) (h0 : Nat) (am : Nat) (ad : Nat) (ab : Nat) (ar : Nat) (az : Nat) (ae : Nat) (ao : Nat) (an : Nat) (au : Nat) (ap : Nat) (aw : Nat) (tz : ClassId) (te : ClassId) (sz : Nat) : Met l yX9_statusOf wsX9_statusOf ({ frames := 1, cells := 0, slots := 0, locals := 21 } : Room) (va_Pc [.ref h0, .int 0] (fun U => U.heap.size = sz ∧ va_P (dC, dI) vwCl [(h0, .inr (8, [.int 0, .ref am, .ref ad, .ref ab, .int 0, .int 0, .ref ar, .int 0, .int 0, .int 2, .int 0, .int 0, .int 0, .ref az, .ref ae, .ref ao, .ref an, .ref au, .int 0, .int 0, .int 0, .ref ap, .ref aw, .int 0, .int 0, .int 0, .int 0, .int 0])), (az, .inl (tz, 3, .inl rdy)), (ae, .inl (te, 3, .inl (fun _ => 0)))] U.heap ∧ va_K (dC, dI) vwCl [(tz, .boolean), (te, .boolean)] U ∧ va_D (fun _ => True) [(h0, .inr (8, [.int 0, .ref am, .ref ad, .ref ab, .int 0, .int 0, .ref ar, .int 0, .int 0, .int 2, .int 0, .int 0, .int 0, .ref az, .ref ae, .ref ao, .ref an, .ref au, .int 0, .int 0, .int 0, .ref ap, .ref aw, .int 0, .int 0, .int 0, .int 0, .int 0])), (az, .inl (tz, 3, .inl rdy)), (ae, .inl (te, 3, .inl (fun _ => 0)))])) (va_Qi (fun (r : Int32) (u : Unit) => r = 128) (fun (u : Unit) (t : State) => va_P (dC, dI) vwCl [(h0, .inr (8, [.int 0, .ref am, .ref ad, .ref ab, .int 0, .int 0, .ref ar, .int 0, .int 0, .int 2, .int 0, .int 0, .int 0, .ref az, .ref ae, .ref ao, .ref an, .ref au, .int 0, .int 0, .int 0, .ref ap, .ref aw, .int 0, .int 0, .int 0, .int 0, .int 0])), (az, .inl (tz, 3, .inl rdy)), (ae, .inl (te, 3, .inl (fun _ => 0)))] t.heap ∧ va_K (dC, dI) vwCl [(tz, .boolean), (te, .boolean)] t ∧ va_D (va_A [(h0, .inr (8, [.int 0, .ref am, .ref ad, .ref ab, .int 0, .int 0, .ref ar, .int 0, .int 0, .int 2, .int 0, .int 0, .int 0, .ref az, .ref ae, .ref ao, .ref an, .ref au, .int 0, .int 0, .int 0, .ref ap, .ref aw, .int 0, .int 0, .int 0, .int 0, .int 0])), (az, .inl (tz, 3, .inl rdy)), (ae, .inl (te, 3, .inl (fun _ => 0)))] sz) [(h0, .inr (8, [.int 0, .ref am, .ref ad, .ref ab, .int 0, .int 0, .ref ar, .int 0, .int 0, .int 2, .int 0, .int 0, .int 0, .ref az, .ref ae, .ref ao, .ref an, .ref au, .int 0, .int 0, .int 0, .ref ap, .ref aw, .int 0, .int 0, .int 0, .int 0, .int 0])), (az, .inl (tz, 3, .inl rdy)), (ae, .inl (te, 3, .inl (fun _ => 0)))]) (va_A [(h0, .inr (8, [.int 0, .ref am, .ref ad, .ref ab, .int 0, .int 0, .ref ar, .int 0, .int 0, .int 2, .int 0, .int 0, .int 0, .ref az, .ref ae, .ref ao, .ref an, .ref au, .int 0, .int 0, .int 0, .ref ap, .ref aw, .int 0, .int 0, .int 0, .int 0, .int 0])), (az, .inl (tz, 3, .inl rdy)), (ae, .inl (te, 3, .inl (fun _ => 0)))] sz)) 0 0 (va_A [(h0, .inr (8, [.int 0, .ref am, .ref ad, .ref ab, .int 0, .int 0, .ref ar, .int 0, .int 0, .int 2, .int 0, .int 0, .int 0, .ref az, .ref ae, .ref ao, .ref an, .ref au, .int 0, .int 0, .int 0, .ref ap, .ref aw, .int 0, .int 0, .int 0, .int 0, .int 0])), (az, .inl (tz, 3, .inl rdy)), (ae, .inl (te, 3, .inl (fun _ => 0)))] sz) := by
  refine Met.ofW (cc := cX9_statusOf) (maxL := 2) (ret := (some .int)) (by decide) rfl ?_
  intro p e s m args below meth c s₁ B hml hv
  obtain ⟨rfl, hsz, hP, hK, hD0⟩ := hv
  have hx := B.exec
  have hb := B.bytes
  have hr := B.returns
  have hts := atoms_spec (ws := wsX9_statusOf) B.pre
  have hown : s.vm.findClass RX9 = some m.cls := findClass_of_methodNamed B.named
  have hlocks := B.notSynchronized
  subst hsz
  have hD := hD0.self (sz := s.heap.size)
  generalize hAe : va_A [(h0, .inr (8, [.int 0, .ref am, .ref ad, .ref ab, .int 0, .int 0, .ref ar, .int 0, .int 0, .int 2, .int 0, .int 0, .int 0, .ref az, .ref ae, .ref ao, .ref an, .ref au, .int 0, .int 0, .int 0, .ref ap, .ref aw, .int 0, .int 0, .int 0, .int 0, .int 0])), (az, .inl (tz, 3, .inl rdy)), (ae, .inl (te, 3, .inl (fun _ => 0)))] s.heap.size = A at hD ⊢
  have hA : ∀ q : Nat, s.heap.size ≤ q → A q := fun q h => by rw [← hAe]; exact Or.inr h
  have hS0 : ∀ G : Heap, s.heap = G → va_S A s.heap G [] := fun G h => by subst h; exact va_S.rf
  generalize hHe : s.heap = H at hP ⊢
  have hS := hS0 H hHe
  have hP : va_P (dC, dI) vwCl [(h0, .inr (8, [.int 0, .ref am, .ref ad, .ref ab, .int 0, .int 0, .ref ar, .int 0, .int 0, .int 2, .int 0, .int 0, .int 0, .ref az, .ref ae, .ref ao, .ref an, .ref au, .int 0, .int 0, .int 0, .ref ap, .ref aw, .int 0, .int 0, .int 0, .int 0, .int 0])), (az, .inl (tz, 3, .inl rdy)), (ae, .inl (te, 3, .inl (fun _ => 0)))] H := hP
  have hD : va_D A [(h0, .inr (8, [.int 0, .ref am, .ref ad, .ref ab, .int 0, .int 0, .ref ar, .int 0, .int 0, .int 2, .int 0, .int 0, .int 0, .ref az, .ref ae, .ref ao, .ref an, .ref au, .int 0, .int 0, .int 0, .ref ap, .ref aw, .int 0, .int 0, .int 0, .int 0, .int 0])), (az, .inl (tz, 3, .inl rdy)), (ae, .inl (te, 3, .inl (fun _ => 0)))] := hD
  have hK : va_K (dC, dI) vwCl [(tz, .boolean), (te, .boolean)] s := hK
  have hl := lv_entry ([.ref h0, .int 0]) (n := 2) (Nat.le_of_ble_eq_true rfl)
  rw [lg_entry_eq]
  generalize (lg_sl ([.ref h0, .int 0]) ++ List.replicate (2 - (lg_sl ([.ref h0, .int 0])).length) Slot.unset).toArray = ls at hl ⊢
  have hl : lv_has ls 2 [(0, .ref h0), (1, .int 0)] := hl
  refine lv_aload_n hx hb dX9_statusOf_0 rfl (lv_at hl 0 rfl) ?_
  refine va_get (D := (dC, dI)) (ci := 8) (v := .ref az) (C := RX9) (T := TX9) (N := 28) hx hb hts (by decide +kernel) hown hK hP 0 rfl rfl 13 (by decide) (hts (.fieldLink RX9 26 "UnibusMachineModel" "ready" "[Z") (by decide +kernel)) (fun _ h9 => h9) rfl dX9_statusOf_1 ?_
  refine lv_iload_n hx hb dX9_statusOf_4 rfl (lv_at hl 1 rfl) ?_
  refine va_zald (D := (dC, dI)) hx hb hK hP 1 0 rfl rfl (vp_in_iff.mpr (by decide)) dX9_statusOf_5 ?_
  refine lv_topi (fun y1 ey1 => ?_)
  obtain rfl : y1 = 1 := by rw [ey1]; decide +kernel
  refine lv_sipush (v := 128) hx hb dX9_statusOf_6 (by decide) ?_
  have hPc := hP.sub (ws' := []) [] rfl
  have hDc := hD.sub (ws' := []) [] (by decide) rfl
  have hKc := hK.sub (tys' := []) [] rfl
  have hFc := va_free (wc := []) hD hS hA [] rfl
  refine va_calli (va_runS (As := [.int 1, .int 128]) (rest := []) ⟨hx, hb, hml, hown, hts⟩ (c_mbit128 l dC dI  H.size) (va_cwS 2 hts gX9_statusOf_X9_bit rfl rfl rfl (by decide +kernel) ⟨Nat.le_of_ble_eq_true rfl, Nat.le_of_ble_eq_true rfl⟩) ⟨fun a U g mk q => by obtain ⟨q0, q1, qP, qK, qD⟩ := q; exact ⟨q0, q1, qP, va_K.moved (u := U) (U := U.calling g mk a) (Vm.Alike.refl U.vm) qK, qD⟩, fun U hU hW => ⟨rfl, by rw [hU], by rw [hU]; exact hPc, va_K.moved hW.alike hKc, hDc.weaken (fun _ _ _ _ => trivial)⟩⟩ rfl rfl hl.1 rfl (lv_room (Nat.le_of_ble_eq_true rfl)) dX9_statusOf_9 ⟨Nat.le_of_ble_eq_true rfl, Nat.le_of_ble_eq_true rfl⟩) hS (fun q _ h => hFc q h) hFc (fun r2 u3 t H1 locs ht hvm hw hB hz1 hk1 hS => ?_)
  obtain ⟨hP1, hK1, hD1⟩ := hB
  rw [ht] at hP1
  have hK1 := va_K.moved hvm.symm hK1
  try dsimp only at hw
  obtain ⟨hP, hD⟩ := va_join (wr := [(h0, .inr (8, [.int 0, .ref am, .ref ad, .ref ab, .int 0, .int 0, .ref ar, .int 0, .int 0, .int 2, .int 0, .int 0, .int 0, .ref az, .ref ae, .ref ao, .ref an, .ref au, .int 0, .int 0, .int 0, .ref ap, .ref aw, .int 0, .int 0, .int 0, .int 0, .int 0])), (az, .inl (tz, 3, .inl rdy)), (ae, .inl (te, 3, .inl (fun _ => 0)))]) (w1 := []) hP hD [] [0, 1, 2] rfl rfl (by decide) (by decide) hk1 hFc hP1 hD1
  have hK := (hK.sub (tys' := [(tz, .boolean), (te, .boolean)]) [0, 1] rfl).app hK1
  generalize H1 = H at hP hS ⊢
  have hP : va_P (dC, dI) vwCl [(h0, .inr (8, [.int 0, .ref am, .ref ad, .ref ab, .int 0, .int 0, .ref ar, .int 0, .int 0, .int 2, .int 0, .int 0, .int 0, .ref az, .ref ae, .ref ao, .ref an, .ref au, .int 0, .int 0, .int 0, .ref ap, .ref aw, .int 0, .int 0, .int 0, .int 0, .int 0])), (az, .inl (tz, 3, .inl rdy)), (ae, .inl (te, 3, .inl (fun _ => 0)))] H := hP
  have hD : va_D A [(h0, .inr (8, [.int 0, .ref am, .ref ad, .ref ab, .int 0, .int 0, .ref ar, .int 0, .int 0, .int 2, .int 0, .int 0, .int 0, .ref az, .ref ae, .ref ao, .ref an, .ref au, .int 0, .int 0, .int 0, .ref ap, .ref aw, .int 0, .int 0, .int 0, .int 0, .int 0])), (az, .inl (tz, 3, .inl rdy)), (ae, .inl (te, 3, .inl (fun _ => 0)))] := hD
  have hK : va_K (dC, dI) vwCl [(tz, .boolean), (te, .boolean)] s := hK
  obtain rfl := hw
  refine lv_aload_n hx hb dX9_statusOf_12 rfl (lv_at hl 0 rfl) ?_
  refine va_get (D := (dC, dI)) (ci := 8) (v := .ref ae) (C := RX9) (T := TX9) (N := 28) hx hb hts (by decide +kernel) hown hK hP 0 rfl rfl 14 (by decide) (hts (.fieldLink RX9 30 "UnibusMachineModel" "enabled" "[Z") (by decide +kernel)) (fun _ h9 => h9) rfl dX9_statusOf_13 ?_
  refine lv_iload_n hx hb dX9_statusOf_16 rfl (lv_at hl 1 rfl) ?_
  refine va_zald (D := (dC, dI)) hx hb hK hP 2 1 rfl rfl (vp_in_iff.mpr (by decide)) dX9_statusOf_17 ?_
  refine lv_bipush (v := 64) hx hb dX9_statusOf_18 (by decide) ?_
  have hPc := hP.sub (ws' := []) [] rfl
  have hDc := hD.sub (ws' := []) [] (by decide) rfl
  have hKc := hK.sub (tys' := []) [] rfl
  have hFc := va_free (wc := []) hD hS hA [] rfl
  refine va_calli (va_runS (As := [.int 0, .int 64]) (rest := [.int 128]) ⟨hx, hb, hml, hown, hts⟩ (c_mbit0 l dC dI 64 H.size) (va_cwS 2 hts gX9_statusOf_X9_bit rfl rfl rfl (by decide +kernel) ⟨Nat.le_of_ble_eq_true rfl, Nat.le_of_ble_eq_true rfl⟩) ⟨fun a U g mk q => by obtain ⟨q0, q1, qP, qK, qD⟩ := q; exact ⟨q0, q1, qP, va_K.moved (u := U) (U := U.calling g mk a) (Vm.Alike.refl U.vm) qK, qD⟩, fun U hU hW => ⟨rfl, by rw [hU], by rw [hU]; exact hPc, va_K.moved hW.alike hKc, hDc.weaken (fun _ _ _ _ => trivial)⟩⟩ rfl rfl hl.1 rfl (lv_room (Nat.le_of_ble_eq_true rfl)) dX9_statusOf_20 ⟨Nat.le_of_ble_eq_true rfl, Nat.le_of_ble_eq_true rfl⟩) hS (fun q _ h => hFc q h) hFc (fun r4 u5 t H1 locs ht hvm hw hB hz1 hk1 hS => ?_)
  obtain ⟨hP1, hK1, hD1⟩ := hB
  rw [ht] at hP1
  have hK1 := va_K.moved hvm.symm hK1
  try dsimp only at hw
  obtain ⟨hP, hD⟩ := va_join (wr := [(h0, .inr (8, [.int 0, .ref am, .ref ad, .ref ab, .int 0, .int 0, .ref ar, .int 0, .int 0, .int 2, .int 0, .int 0, .int 0, .ref az, .ref ae, .ref ao, .ref an, .ref au, .int 0, .int 0, .int 0, .ref ap, .ref aw, .int 0, .int 0, .int 0, .int 0, .int 0])), (az, .inl (tz, 3, .inl rdy)), (ae, .inl (te, 3, .inl (fun _ => 0)))]) (w1 := []) hP hD [] [0, 1, 2] rfl rfl (by decide) (by decide) hk1 hFc hP1 hD1
  have hK := (hK.sub (tys' := [(tz, .boolean), (te, .boolean)]) [0, 1] rfl).app hK1
  generalize H1 = H at hP hS ⊢
  have hP : va_P (dC, dI) vwCl [(h0, .inr (8, [.int 0, .ref am, .ref ad, .ref ab, .int 0, .int 0, .ref ar, .int 0, .int 0, .int 2, .int 0, .int 0, .int 0, .ref az, .ref ae, .ref ao, .ref an, .ref au, .int 0, .int 0, .int 0, .ref ap, .ref aw, .int 0, .int 0, .int 0, .int 0, .int 0])), (az, .inl (tz, 3, .inl rdy)), (ae, .inl (te, 3, .inl (fun _ => 0)))] H := hP
  have hD : va_D A [(h0, .inr (8, [.int 0, .ref am, .ref ad, .ref ab, .int 0, .int 0, .ref ar, .int 0, .int 0, .int 2, .int 0, .int 0, .int 0, .ref az, .ref ae, .ref ao, .ref an, .ref au, .int 0, .int 0, .int 0, .ref ap, .ref aw, .int 0, .int 0, .int 0, .int 0, .int 0])), (az, .inl (tz, 3, .inl rdy)), (ae, .inl (te, 3, .inl (fun _ => 0)))] := hD
  have hK : va_K (dC, dI) vwCl [(tz, .boolean), (te, .boolean)] s := hK
  obtain rfl := hw
  refine lv_iadd hx hb dX9_statusOf_23 ?_
  refine lv_topi (fun y6 ey6 => ?_)
  obtain rfl : y6 = 128 := by rw [ey6]; decide
  refine lv_iload_n hx hb dX9_statusOf_24 rfl (lv_at hl 1 rfl) ?_
  refine lv_if_ne (tgt := 49) hx hb dX9_statusOf_25 (by decide) (fun c7 => ?_) (fun c7 => ?_)
  · exact absurd c7 (by decide)
  · skip
    refine lv_aload_n hx hb dX9_statusOf_28 rfl (lv_at hl 0 rfl) ?_
    refine va_get (D := (dC, dI)) (ci := 8) (v := .int 0) (C := RX9) (T := TX9) (N := 28) hx hb hts (by decide +kernel) hown hK hP 0 rfl rfl 23 (by decide) (hts (.fieldLink RX9 56 "UnibusMachineModel" "writes" "Z") (by decide +kernel)) (fun _ h9 => h9) rfl dX9_statusOf_29 ?_
    refine lv_iconst (v := 2) hx hb dX9_statusOf_32 (by decide) ?_
    have hPc := hP.sub (ws' := []) [] rfl
    have hDc := hD.sub (ws' := []) [] (by decide) rfl
    have hKc := hK.sub (tys' := []) [] rfl
    have hFc := va_free (wc := []) hD hS hA [] rfl
    refine va_calli (va_runS (As := [.int 0, .int 2]) (rest := [.int 128]) ⟨hx, hb, hml, hown, hts⟩ (c_mbit0 l dC dI 2 H.size) (va_cwS 2 hts gX9_statusOf_X9_bit rfl rfl rfl (by decide +kernel) ⟨Nat.le_of_ble_eq_true rfl, Nat.le_of_ble_eq_true rfl⟩) ⟨fun a U g mk q => by obtain ⟨q0, q1, qP, qK, qD⟩ := q; exact ⟨q0, q1, qP, va_K.moved (u := U) (U := U.calling g mk a) (Vm.Alike.refl U.vm) qK, qD⟩, fun U hU hW => ⟨rfl, by rw [hU], by rw [hU]; exact hPc, va_K.moved hW.alike hKc, hDc.weaken (fun _ _ _ _ => trivial)⟩⟩ rfl rfl hl.1 rfl (lv_room (Nat.le_of_ble_eq_true rfl)) dX9_statusOf_33 ⟨Nat.le_of_ble_eq_true rfl, Nat.le_of_ble_eq_true rfl⟩) hS (fun q _ h => hFc q h) hFc (fun r8 u9 t H1 locs ht hvm hw hB hz1 hk1 hS => ?_)
    obtain ⟨hP1, hK1, hD1⟩ := hB
    rw [ht] at hP1
    have hK1 := va_K.moved hvm.symm hK1
    try dsimp only at hw
    obtain ⟨hP, hD⟩ := va_join (wr := [(h0, .inr (8, [.int 0, .ref am, .ref ad, .ref ab, .int 0, .int 0, .ref ar, .int 0, .int 0, .int 2, .int 0, .int 0, .int 0, .ref az, .ref ae, .ref ao, .ref an, .ref au, .int 0, .int 0, .int 0, .ref ap, .ref aw, .int 0, .int 0, .int 0, .int 0, .int 0])), (az, .inl (tz, 3, .inl rdy)), (ae, .inl (te, 3, .inl (fun _ => 0)))]) (w1 := []) hP hD [] [0, 1, 2] rfl rfl (by decide) (by decide) hk1 hFc hP1 hD1
    have hK := (hK.sub (tys' := [(tz, .boolean), (te, .boolean)]) [0, 1] rfl).app hK1
    generalize H1 = H at hP hS ⊢
    have hP : va_P (dC, dI) vwCl [(h0, .inr (8, [.int 0, .ref am, .ref ad, .ref ab, .int 0, .int 0, .ref ar, .int 0, .int 0, .int 2, .int 0, .int 0, .int 0, .ref az, .ref ae, .ref ao, .ref an, .ref au, .int 0, .int 0, .int 0, .ref ap, .ref aw, .int 0, .int 0, .int 0, .int 0, .int 0])), (az, .inl (tz, 3, .inl rdy)), (ae, .inl (te, 3, .inl (fun _ => 0)))] H := hP
    have hD : va_D A [(h0, .inr (8, [.int 0, .ref am, .ref ad, .ref ab, .int 0, .int 0, .ref ar, .int 0, .int 0, .int 2, .int 0, .int 0, .int 0, .ref az, .ref ae, .ref ao, .ref an, .ref au, .int 0, .int 0, .int 0, .ref ap, .ref aw, .int 0, .int 0, .int 0, .int 0, .int 0])), (az, .inl (tz, 3, .inl rdy)), (ae, .inl (te, 3, .inl (fun _ => 0)))] := hD
    have hK : va_K (dC, dI) vwCl [(tz, .boolean), (te, .boolean)] s := hK
    obtain rfl := hw
    refine lv_aload_n hx hb dX9_statusOf_36 rfl (lv_at hl 0 rfl) ?_
    refine va_get (D := (dC, dI)) (ci := 8) (v := .int 0) (C := RX9) (T := TX9) (N := 28) hx hb hts (by decide +kernel) hown hK hP 0 rfl rfl 24 (by decide) (hts (.fieldLink RX9 60 "UnibusMachineModel" "failed" "Z") (by decide +kernel)) (fun _ h9 => h9) rfl dX9_statusOf_37 ?_
    refine lv_ldc (v := 32768) hx hb hown (hts (.constant RX9 63 (32768)) (by decide +kernel)) dX9_statusOf_40 ?_
    have hPc := hP.sub (ws' := []) [] rfl
    have hDc := hD.sub (ws' := []) [] (by decide) rfl
    have hKc := hK.sub (tys' := []) [] rfl
    have hFc := va_free (wc := []) hD hS hA [] rfl
    refine va_calli (va_runS (As := [.int 0, .int 32768]) (rest := [.int 0, .int 128]) ⟨hx, hb, hml, hown, hts⟩ (c_mbit0 l dC dI 32768 H.size) (va_cwS 2 hts gX9_statusOf_X9_bit rfl rfl rfl (by decide +kernel) ⟨Nat.le_of_ble_eq_true rfl, Nat.le_of_ble_eq_true rfl⟩) ⟨fun a U g mk q => by obtain ⟨q0, q1, qP, qK, qD⟩ := q; exact ⟨q0, q1, qP, va_K.moved (u := U) (U := U.calling g mk a) (Vm.Alike.refl U.vm) qK, qD⟩, fun U hU hW => ⟨rfl, by rw [hU], by rw [hU]; exact hPc, va_K.moved hW.alike hKc, hDc.weaken (fun _ _ _ _ => trivial)⟩⟩ rfl rfl hl.1 rfl (lv_room (Nat.le_of_ble_eq_true rfl)) dX9_statusOf_42 ⟨Nat.le_of_ble_eq_true rfl, Nat.le_of_ble_eq_true rfl⟩) hS (fun q _ h => hFc q h) hFc (fun r10 u11 t H1 locs ht hvm hw hB hz1 hk1 hS => ?_)
    obtain ⟨hP1, hK1, hD1⟩ := hB
    rw [ht] at hP1
    have hK1 := va_K.moved hvm.symm hK1
    try dsimp only at hw
    obtain ⟨hP, hD⟩ := va_join (wr := [(h0, .inr (8, [.int 0, .ref am, .ref ad, .ref ab, .int 0, .int 0, .ref ar, .int 0, .int 0, .int 2, .int 0, .int 0, .int 0, .ref az, .ref ae, .ref ao, .ref an, .ref au, .int 0, .int 0, .int 0, .ref ap, .ref aw, .int 0, .int 0, .int 0, .int 0, .int 0])), (az, .inl (tz, 3, .inl rdy)), (ae, .inl (te, 3, .inl (fun _ => 0)))]) (w1 := []) hP hD [] [0, 1, 2] rfl rfl (by decide) (by decide) hk1 hFc hP1 hD1
    have hK := (hK.sub (tys' := [(tz, .boolean), (te, .boolean)]) [0, 1] rfl).app hK1
    generalize H1 = H at hP hS ⊢
    have hP : va_P (dC, dI) vwCl [(h0, .inr (8, [.int 0, .ref am, .ref ad, .ref ab, .int 0, .int 0, .ref ar, .int 0, .int 0, .int 2, .int 0, .int 0, .int 0, .ref az, .ref ae, .ref ao, .ref an, .ref au, .int 0, .int 0, .int 0, .ref ap, .ref aw, .int 0, .int 0, .int 0, .int 0, .int 0])), (az, .inl (tz, 3, .inl rdy)), (ae, .inl (te, 3, .inl (fun _ => 0)))] H := hP
    have hD : va_D A [(h0, .inr (8, [.int 0, .ref am, .ref ad, .ref ab, .int 0, .int 0, .ref ar, .int 0, .int 0, .int 2, .int 0, .int 0, .int 0, .ref az, .ref ae, .ref ao, .ref an, .ref au, .int 0, .int 0, .int 0, .ref ap, .ref aw, .int 0, .int 0, .int 0, .int 0, .int 0])), (az, .inl (tz, 3, .inl rdy)), (ae, .inl (te, 3, .inl (fun _ => 0)))] := hD
    have hK : va_K (dC, dI) vwCl [(tz, .boolean), (te, .boolean)] s := hK
    obtain rfl := hw
    refine lv_iadd hx hb dX9_statusOf_45 ?_
    refine lv_topi (fun y12 ey12 => ?_)
    obtain rfl : y12 = 0 := by rw [ey12]; decide
    refine lv_goto (tgt := 50) hx hb dX9_statusOf_46 (by decide) ?_
    refine lv_iadd hx hb dX9_statusOf_50 ?_
    refine lv_topi (fun y13 ey13 => ?_)
    obtain rfl : y13 = 128 := by rw [ey13]; decide
    have hP9 := hP.sub (ws' := [(h0, .inr (8, [.int 0, .ref am, .ref ad, .ref ab, .int 0, .int 0, .ref ar, .int 0, .int 0, .int 2, .int 0, .int 0, .int 0, .ref az, .ref ae, .ref ao, .ref an, .ref au, .int 0, .int 0, .int 0, .ref ap, .ref aw, .int 0, .int 0, .int 0, .int 0, .int 0])), (az, .inl (tz, 3, .inl rdy)), (ae, .inl (te, 3, .inl (fun _ => 0)))]) [0, 1, 2] rfl
    have hD9 := hD.sub (ws' := [(h0, .inr (8, [.int 0, .ref am, .ref ad, .ref ab, .int 0, .int 0, .ref ar, .int 0, .int 0, .int 2, .int 0, .int 0, .int 0, .ref az, .ref ae, .ref ao, .ref an, .ref au, .int 0, .int 0, .int 0, .ref ap, .ref aw, .int 0, .int 0, .int 0, .int 0, .int 0])), (az, .inl (tz, 3, .inl rdy)), (ae, .inl (te, 3, .inl (fun _ => 0)))]) [0, 1, 2] (by decide) rfl
    have hK9 := hK.sub (tys' := [(tz, .boolean), (te, .boolean)]) [0, 1] rfl
    exact W.iret (v := 128) hx hb hr (fun t ht hW => ⟨⟨128, (), rfl, rfl, by rw [ht]; exact hP9, va_K.moved hW.alike hK9, hD9⟩, hS.F ht⟩) hS.2.2 dX9_statusOf_51
set_option maxHeartbeats 4000000 in
set_option maxRecDepth 100000 in
theorem c_mstatusOf1 (l : Launch) (dC : Nat → ClassId) (dI : Nat → Nat → Nat) (h0 : Nat) (am : Nat) (ad : Nat) (ab : Nat) (ar : Nat) (az : Nat) (ae : Nat) (ao : Nat) (an : Nat) (au : Nat) (ap : Nat) (aw : Nat) (tz : ClassId) (te : ClassId) (sz : Nat) : Met l yX9_statusOf wsX9_statusOf ({ frames := 1, cells := 0, slots := 0, locals := 21 } : Room) (va_Pc [.ref h0, .int 1] (fun U => U.heap.size = sz ∧ va_P (dC, dI) vwCl [(h0, .inr (8, [.int 0, .ref am, .ref ad, .ref ab, .int 0, .int 0, .ref ar, .int 0, .int 0, .int 2, .int 0, .int 0, .int 0, .ref az, .ref ae, .ref ao, .ref an, .ref au, .int 0, .int 0, .int 0, .ref ap, .ref aw, .int 0, .int 0, .int 0, .int 0, .int 0])), (az, .inl (tz, 3, .inl rdy)), (ae, .inl (te, 3, .inl (fun _ => 0)))] U.heap ∧ va_K (dC, dI) vwCl [(tz, .boolean), (te, .boolean)] U ∧ va_D (fun _ => True) [(h0, .inr (8, [.int 0, .ref am, .ref ad, .ref ab, .int 0, .int 0, .ref ar, .int 0, .int 0, .int 2, .int 0, .int 0, .int 0, .ref az, .ref ae, .ref ao, .ref an, .ref au, .int 0, .int 0, .int 0, .ref ap, .ref aw, .int 0, .int 0, .int 0, .int 0, .int 0])), (az, .inl (tz, 3, .inl rdy)), (ae, .inl (te, 3, .inl (fun _ => 0)))])) (va_Qi (fun (r : Int32) (u : Unit) => r = 0) (fun (u : Unit) (t : State) => va_P (dC, dI) vwCl [(h0, .inr (8, [.int 0, .ref am, .ref ad, .ref ab, .int 0, .int 0, .ref ar, .int 0, .int 0, .int 2, .int 0, .int 0, .int 0, .ref az, .ref ae, .ref ao, .ref an, .ref au, .int 0, .int 0, .int 0, .ref ap, .ref aw, .int 0, .int 0, .int 0, .int 0, .int 0])), (az, .inl (tz, 3, .inl rdy)), (ae, .inl (te, 3, .inl (fun _ => 0)))] t.heap ∧ va_K (dC, dI) vwCl [(tz, .boolean), (te, .boolean)] t ∧ va_D (va_A [(h0, .inr (8, [.int 0, .ref am, .ref ad, .ref ab, .int 0, .int 0, .ref ar, .int 0, .int 0, .int 2, .int 0, .int 0, .int 0, .ref az, .ref ae, .ref ao, .ref an, .ref au, .int 0, .int 0, .int 0, .ref ap, .ref aw, .int 0, .int 0, .int 0, .int 0, .int 0])), (az, .inl (tz, 3, .inl rdy)), (ae, .inl (te, 3, .inl (fun _ => 0)))] sz) [(h0, .inr (8, [.int 0, .ref am, .ref ad, .ref ab, .int 0, .int 0, .ref ar, .int 0, .int 0, .int 2, .int 0, .int 0, .int 0, .ref az, .ref ae, .ref ao, .ref an, .ref au, .int 0, .int 0, .int 0, .ref ap, .ref aw, .int 0, .int 0, .int 0, .int 0, .int 0])), (az, .inl (tz, 3, .inl rdy)), (ae, .inl (te, 3, .inl (fun _ => 0)))]) (va_A [(h0, .inr (8, [.int 0, .ref am, .ref ad, .ref ab, .int 0, .int 0, .ref ar, .int 0, .int 0, .int 2, .int 0, .int 0, .int 0, .ref az, .ref ae, .ref ao, .ref an, .ref au, .int 0, .int 0, .int 0, .ref ap, .ref aw, .int 0, .int 0, .int 0, .int 0, .int 0])), (az, .inl (tz, 3, .inl rdy)), (ae, .inl (te, 3, .inl (fun _ => 0)))] sz)) 0 0 (va_A [(h0, .inr (8, [.int 0, .ref am, .ref ad, .ref ab, .int 0, .int 0, .ref ar, .int 0, .int 0, .int 2, .int 0, .int 0, .int 0, .ref az, .ref ae, .ref ao, .ref an, .ref au, .int 0, .int 0, .int 0, .ref ap, .ref aw, .int 0, .int 0, .int 0, .int 0, .int 0])), (az, .inl (tz, 3, .inl rdy)), (ae, .inl (te, 3, .inl (fun _ => 0)))] sz) := by
  refine Met.ofW (cc := cX9_statusOf) (maxL := 2) (ret := (some .int)) (by decide) rfl ?_
  intro p e s m args below meth c s₁ B hml hv
  obtain ⟨rfl, hsz, hP, hK, hD0⟩ := hv
  have hx := B.exec
  have hb := B.bytes
  have hr := B.returns
  have hts := atoms_spec (ws := wsX9_statusOf) B.pre
  have hown : s.vm.findClass RX9 = some m.cls := findClass_of_methodNamed B.named
  have hlocks := B.notSynchronized
  subst hsz
  have hD := hD0.self (sz := s.heap.size)
  generalize hAe : va_A [(h0, .inr (8, [.int 0, .ref am, .ref ad, .ref ab, .int 0, .int 0, .ref ar, .int 0, .int 0, .int 2, .int 0, .int 0, .int 0, .ref az, .ref ae, .ref ao, .ref an, .ref au, .int 0, .int 0, .int 0, .ref ap, .ref aw, .int 0, .int 0, .int 0, .int 0, .int 0])), (az, .inl (tz, 3, .inl rdy)), (ae, .inl (te, 3, .inl (fun _ => 0)))] s.heap.size = A at hD ⊢
  have hA : ∀ q : Nat, s.heap.size ≤ q → A q := fun q h => by rw [← hAe]; exact Or.inr h
  have hS0 : ∀ G : Heap, s.heap = G → va_S A s.heap G [] := fun G h => by subst h; exact va_S.rf
  generalize hHe : s.heap = H at hP ⊢
  have hS := hS0 H hHe
  have hP : va_P (dC, dI) vwCl [(h0, .inr (8, [.int 0, .ref am, .ref ad, .ref ab, .int 0, .int 0, .ref ar, .int 0, .int 0, .int 2, .int 0, .int 0, .int 0, .ref az, .ref ae, .ref ao, .ref an, .ref au, .int 0, .int 0, .int 0, .ref ap, .ref aw, .int 0, .int 0, .int 0, .int 0, .int 0])), (az, .inl (tz, 3, .inl rdy)), (ae, .inl (te, 3, .inl (fun _ => 0)))] H := hP
  have hD : va_D A [(h0, .inr (8, [.int 0, .ref am, .ref ad, .ref ab, .int 0, .int 0, .ref ar, .int 0, .int 0, .int 2, .int 0, .int 0, .int 0, .ref az, .ref ae, .ref ao, .ref an, .ref au, .int 0, .int 0, .int 0, .ref ap, .ref aw, .int 0, .int 0, .int 0, .int 0, .int 0])), (az, .inl (tz, 3, .inl rdy)), (ae, .inl (te, 3, .inl (fun _ => 0)))] := hD
  have hK : va_K (dC, dI) vwCl [(tz, .boolean), (te, .boolean)] s := hK
  have hl := lv_entry ([.ref h0, .int 1]) (n := 2) (Nat.le_of_ble_eq_true rfl)
  rw [lg_entry_eq]
  generalize (lg_sl ([.ref h0, .int 1]) ++ List.replicate (2 - (lg_sl ([.ref h0, .int 1])).length) Slot.unset).toArray = ls at hl ⊢
  have hl : lv_has ls 2 [(0, .ref h0), (1, .int 1)] := hl
  refine lv_aload_n hx hb dX9_statusOf_0 rfl (lv_at hl 0 rfl) ?_
  refine va_get (D := (dC, dI)) (ci := 8) (v := .ref az) (C := RX9) (T := TX9) (N := 28) hx hb hts (by decide +kernel) hown hK hP 0 rfl rfl 13 (by decide) (hts (.fieldLink RX9 26 "UnibusMachineModel" "ready" "[Z") (by decide +kernel)) (fun _ h9 => h9) rfl dX9_statusOf_1 ?_
  refine lv_iload_n hx hb dX9_statusOf_4 rfl (lv_at hl 1 rfl) ?_
  refine va_zald (D := (dC, dI)) hx hb hK hP 1 0 rfl rfl (vp_in_iff.mpr (by decide)) dX9_statusOf_5 ?_
  refine lv_topi (fun y1 ey1 => ?_)
  obtain rfl : y1 = 0 := by rw [ey1]; decide +kernel
  refine lv_sipush (v := 128) hx hb dX9_statusOf_6 (by decide) ?_
  have hPc := hP.sub (ws' := []) [] rfl
  have hDc := hD.sub (ws' := []) [] (by decide) rfl
  have hKc := hK.sub (tys' := []) [] rfl
  have hFc := va_free (wc := []) hD hS hA [] rfl
  refine va_calli (va_runS (As := [.int 0, .int 128]) (rest := []) ⟨hx, hb, hml, hown, hts⟩ (c_mbit0 l dC dI 128 H.size) (va_cwS 2 hts gX9_statusOf_X9_bit rfl rfl rfl (by decide +kernel) ⟨Nat.le_of_ble_eq_true rfl, Nat.le_of_ble_eq_true rfl⟩) ⟨fun a U g mk q => by obtain ⟨q0, q1, qP, qK, qD⟩ := q; exact ⟨q0, q1, qP, va_K.moved (u := U) (U := U.calling g mk a) (Vm.Alike.refl U.vm) qK, qD⟩, fun U hU hW => ⟨rfl, by rw [hU], by rw [hU]; exact hPc, va_K.moved hW.alike hKc, hDc.weaken (fun _ _ _ _ => trivial)⟩⟩ rfl rfl hl.1 rfl (lv_room (Nat.le_of_ble_eq_true rfl)) dX9_statusOf_9 ⟨Nat.le_of_ble_eq_true rfl, Nat.le_of_ble_eq_true rfl⟩) hS (fun q _ h => hFc q h) hFc (fun r2 u3 t H1 locs ht hvm hw hB hz1 hk1 hS => ?_)
  obtain ⟨hP1, hK1, hD1⟩ := hB
  rw [ht] at hP1
  have hK1 := va_K.moved hvm.symm hK1
  try dsimp only at hw
  obtain ⟨hP, hD⟩ := va_join (wr := [(h0, .inr (8, [.int 0, .ref am, .ref ad, .ref ab, .int 0, .int 0, .ref ar, .int 0, .int 0, .int 2, .int 0, .int 0, .int 0, .ref az, .ref ae, .ref ao, .ref an, .ref au, .int 0, .int 0, .int 0, .ref ap, .ref aw, .int 0, .int 0, .int 0, .int 0, .int 0])), (az, .inl (tz, 3, .inl rdy)), (ae, .inl (te, 3, .inl (fun _ => 0)))]) (w1 := []) hP hD [] [0, 1, 2] rfl rfl (by decide) (by decide) hk1 hFc hP1 hD1
  have hK := (hK.sub (tys' := [(tz, .boolean), (te, .boolean)]) [0, 1] rfl).app hK1
  generalize H1 = H at hP hS ⊢
  have hP : va_P (dC, dI) vwCl [(h0, .inr (8, [.int 0, .ref am, .ref ad, .ref ab, .int 0, .int 0, .ref ar, .int 0, .int 0, .int 2, .int 0, .int 0, .int 0, .ref az, .ref ae, .ref ao, .ref an, .ref au, .int 0, .int 0, .int 0, .ref ap, .ref aw, .int 0, .int 0, .int 0, .int 0, .int 0])), (az, .inl (tz, 3, .inl rdy)), (ae, .inl (te, 3, .inl (fun _ => 0)))] H := hP
  have hD : va_D A [(h0, .inr (8, [.int 0, .ref am, .ref ad, .ref ab, .int 0, .int 0, .ref ar, .int 0, .int 0, .int 2, .int 0, .int 0, .int 0, .ref az, .ref ae, .ref ao, .ref an, .ref au, .int 0, .int 0, .int 0, .ref ap, .ref aw, .int 0, .int 0, .int 0, .int 0, .int 0])), (az, .inl (tz, 3, .inl rdy)), (ae, .inl (te, 3, .inl (fun _ => 0)))] := hD
  have hK : va_K (dC, dI) vwCl [(tz, .boolean), (te, .boolean)] s := hK
  obtain rfl := hw
  refine lv_aload_n hx hb dX9_statusOf_12 rfl (lv_at hl 0 rfl) ?_
  refine va_get (D := (dC, dI)) (ci := 8) (v := .ref ae) (C := RX9) (T := TX9) (N := 28) hx hb hts (by decide +kernel) hown hK hP 0 rfl rfl 14 (by decide) (hts (.fieldLink RX9 30 "UnibusMachineModel" "enabled" "[Z") (by decide +kernel)) (fun _ h9 => h9) rfl dX9_statusOf_13 ?_
  refine lv_iload_n hx hb dX9_statusOf_16 rfl (lv_at hl 1 rfl) ?_
  refine va_zald (D := (dC, dI)) hx hb hK hP 2 1 rfl rfl (vp_in_iff.mpr (by decide)) dX9_statusOf_17 ?_
  refine lv_bipush (v := 64) hx hb dX9_statusOf_18 (by decide) ?_
  have hPc := hP.sub (ws' := []) [] rfl
  have hDc := hD.sub (ws' := []) [] (by decide) rfl
  have hKc := hK.sub (tys' := []) [] rfl
  have hFc := va_free (wc := []) hD hS hA [] rfl
  refine va_calli (va_runS (As := [.int 0, .int 64]) (rest := [.int 0]) ⟨hx, hb, hml, hown, hts⟩ (c_mbit0 l dC dI 64 H.size) (va_cwS 2 hts gX9_statusOf_X9_bit rfl rfl rfl (by decide +kernel) ⟨Nat.le_of_ble_eq_true rfl, Nat.le_of_ble_eq_true rfl⟩) ⟨fun a U g mk q => by obtain ⟨q0, q1, qP, qK, qD⟩ := q; exact ⟨q0, q1, qP, va_K.moved (u := U) (U := U.calling g mk a) (Vm.Alike.refl U.vm) qK, qD⟩, fun U hU hW => ⟨rfl, by rw [hU], by rw [hU]; exact hPc, va_K.moved hW.alike hKc, hDc.weaken (fun _ _ _ _ => trivial)⟩⟩ rfl rfl hl.1 rfl (lv_room (Nat.le_of_ble_eq_true rfl)) dX9_statusOf_20 ⟨Nat.le_of_ble_eq_true rfl, Nat.le_of_ble_eq_true rfl⟩) hS (fun q _ h => hFc q h) hFc (fun r4 u5 t H1 locs ht hvm hw hB hz1 hk1 hS => ?_)
  obtain ⟨hP1, hK1, hD1⟩ := hB
  rw [ht] at hP1
  have hK1 := va_K.moved hvm.symm hK1
  try dsimp only at hw
  obtain ⟨hP, hD⟩ := va_join (wr := [(h0, .inr (8, [.int 0, .ref am, .ref ad, .ref ab, .int 0, .int 0, .ref ar, .int 0, .int 0, .int 2, .int 0, .int 0, .int 0, .ref az, .ref ae, .ref ao, .ref an, .ref au, .int 0, .int 0, .int 0, .ref ap, .ref aw, .int 0, .int 0, .int 0, .int 0, .int 0])), (az, .inl (tz, 3, .inl rdy)), (ae, .inl (te, 3, .inl (fun _ => 0)))]) (w1 := []) hP hD [] [0, 1, 2] rfl rfl (by decide) (by decide) hk1 hFc hP1 hD1
  have hK := (hK.sub (tys' := [(tz, .boolean), (te, .boolean)]) [0, 1] rfl).app hK1
  generalize H1 = H at hP hS ⊢
  have hP : va_P (dC, dI) vwCl [(h0, .inr (8, [.int 0, .ref am, .ref ad, .ref ab, .int 0, .int 0, .ref ar, .int 0, .int 0, .int 2, .int 0, .int 0, .int 0, .ref az, .ref ae, .ref ao, .ref an, .ref au, .int 0, .int 0, .int 0, .ref ap, .ref aw, .int 0, .int 0, .int 0, .int 0, .int 0])), (az, .inl (tz, 3, .inl rdy)), (ae, .inl (te, 3, .inl (fun _ => 0)))] H := hP
  have hD : va_D A [(h0, .inr (8, [.int 0, .ref am, .ref ad, .ref ab, .int 0, .int 0, .ref ar, .int 0, .int 0, .int 2, .int 0, .int 0, .int 0, .ref az, .ref ae, .ref ao, .ref an, .ref au, .int 0, .int 0, .int 0, .ref ap, .ref aw, .int 0, .int 0, .int 0, .int 0, .int 0])), (az, .inl (tz, 3, .inl rdy)), (ae, .inl (te, 3, .inl (fun _ => 0)))] := hD
  have hK : va_K (dC, dI) vwCl [(tz, .boolean), (te, .boolean)] s := hK
  obtain rfl := hw
  refine lv_iadd hx hb dX9_statusOf_23 ?_
  refine lv_topi (fun y6 ey6 => ?_)
  obtain rfl : y6 = 0 := by rw [ey6]; decide
  refine lv_iload_n hx hb dX9_statusOf_24 rfl (lv_at hl 1 rfl) ?_
  refine lv_if_ne (tgt := 49) hx hb dX9_statusOf_25 (by decide) (fun c7 => ?_) (fun c7 => ?_)
  · skip
    refine lv_iconst (v := 0) hx hb dX9_statusOf_49 (by decide) ?_
    refine lv_iadd hx hb dX9_statusOf_50 ?_
    refine lv_topi (fun y8 ey8 => ?_)
    obtain rfl : y8 = 0 := by rw [ey8]; decide
    have hP9 := hP.sub (ws' := [(h0, .inr (8, [.int 0, .ref am, .ref ad, .ref ab, .int 0, .int 0, .ref ar, .int 0, .int 0, .int 2, .int 0, .int 0, .int 0, .ref az, .ref ae, .ref ao, .ref an, .ref au, .int 0, .int 0, .int 0, .ref ap, .ref aw, .int 0, .int 0, .int 0, .int 0, .int 0])), (az, .inl (tz, 3, .inl rdy)), (ae, .inl (te, 3, .inl (fun _ => 0)))]) [0, 1, 2] rfl
    have hD9 := hD.sub (ws' := [(h0, .inr (8, [.int 0, .ref am, .ref ad, .ref ab, .int 0, .int 0, .ref ar, .int 0, .int 0, .int 2, .int 0, .int 0, .int 0, .ref az, .ref ae, .ref ao, .ref an, .ref au, .int 0, .int 0, .int 0, .ref ap, .ref aw, .int 0, .int 0, .int 0, .int 0, .int 0])), (az, .inl (tz, 3, .inl rdy)), (ae, .inl (te, 3, .inl (fun _ => 0)))]) [0, 1, 2] (by decide) rfl
    have hK9 := hK.sub (tys' := [(tz, .boolean), (te, .boolean)]) [0, 1] rfl
    exact W.iret (v := 0) hx hb hr (fun t ht hW => ⟨⟨0, (), rfl, rfl, by rw [ht]; exact hP9, va_K.moved hW.alike hK9, hD9⟩, hS.F ht⟩) hS.2.2 dX9_statusOf_51
  · exact absurd c7 (by decide)
set_option maxHeartbeats 4000000 in
set_option maxRecDepth 100000 in
theorem c_mstatusOf2 (l : Launch) (dC : Nat → ClassId) (dI : Nat → Nat → Nat) (h0 : Nat) (am : Nat) (ad : Nat) (ab : Nat) (ar : Nat) (az : Nat) (ae : Nat) (ao : Nat) (an : Nat) (au : Nat) (ap : Nat) (aw : Nat) (tz : ClassId) (te : ClassId) (sz : Nat) : Met l yX9_statusOf wsX9_statusOf ({ frames := 1, cells := 0, slots := 0, locals := 21 } : Room) (va_Pc [.ref h0, .int 2] (fun U => U.heap.size = sz ∧ va_P (dC, dI) vwCl [(h0, .inr (8, [.int 0, .ref am, .ref ad, .ref ab, .int 0, .int 0, .ref ar, .int 0, .int 0, .int 2, .int 0, .int 0, .int 0, .ref az, .ref ae, .ref ao, .ref an, .ref au, .int 0, .int 0, .int 0, .ref ap, .ref aw, .int 0, .int 0, .int 0, .int 0, .int 0])), (az, .inl (tz, 3, .inl rdy)), (ae, .inl (te, 3, .inl (fun _ => 0)))] U.heap ∧ va_K (dC, dI) vwCl [(tz, .boolean), (te, .boolean)] U ∧ va_D (fun _ => True) [(h0, .inr (8, [.int 0, .ref am, .ref ad, .ref ab, .int 0, .int 0, .ref ar, .int 0, .int 0, .int 2, .int 0, .int 0, .int 0, .ref az, .ref ae, .ref ao, .ref an, .ref au, .int 0, .int 0, .int 0, .ref ap, .ref aw, .int 0, .int 0, .int 0, .int 0, .int 0])), (az, .inl (tz, 3, .inl rdy)), (ae, .inl (te, 3, .inl (fun _ => 0)))])) (va_Qi (fun (r : Int32) (u : Unit) => r = 128) (fun (u : Unit) (t : State) => va_P (dC, dI) vwCl [(h0, .inr (8, [.int 0, .ref am, .ref ad, .ref ab, .int 0, .int 0, .ref ar, .int 0, .int 0, .int 2, .int 0, .int 0, .int 0, .ref az, .ref ae, .ref ao, .ref an, .ref au, .int 0, .int 0, .int 0, .ref ap, .ref aw, .int 0, .int 0, .int 0, .int 0, .int 0])), (az, .inl (tz, 3, .inl rdy)), (ae, .inl (te, 3, .inl (fun _ => 0)))] t.heap ∧ va_K (dC, dI) vwCl [(tz, .boolean), (te, .boolean)] t ∧ va_D (va_A [(h0, .inr (8, [.int 0, .ref am, .ref ad, .ref ab, .int 0, .int 0, .ref ar, .int 0, .int 0, .int 2, .int 0, .int 0, .int 0, .ref az, .ref ae, .ref ao, .ref an, .ref au, .int 0, .int 0, .int 0, .ref ap, .ref aw, .int 0, .int 0, .int 0, .int 0, .int 0])), (az, .inl (tz, 3, .inl rdy)), (ae, .inl (te, 3, .inl (fun _ => 0)))] sz) [(h0, .inr (8, [.int 0, .ref am, .ref ad, .ref ab, .int 0, .int 0, .ref ar, .int 0, .int 0, .int 2, .int 0, .int 0, .int 0, .ref az, .ref ae, .ref ao, .ref an, .ref au, .int 0, .int 0, .int 0, .ref ap, .ref aw, .int 0, .int 0, .int 0, .int 0, .int 0])), (az, .inl (tz, 3, .inl rdy)), (ae, .inl (te, 3, .inl (fun _ => 0)))]) (va_A [(h0, .inr (8, [.int 0, .ref am, .ref ad, .ref ab, .int 0, .int 0, .ref ar, .int 0, .int 0, .int 2, .int 0, .int 0, .int 0, .ref az, .ref ae, .ref ao, .ref an, .ref au, .int 0, .int 0, .int 0, .ref ap, .ref aw, .int 0, .int 0, .int 0, .int 0, .int 0])), (az, .inl (tz, 3, .inl rdy)), (ae, .inl (te, 3, .inl (fun _ => 0)))] sz)) 0 0 (va_A [(h0, .inr (8, [.int 0, .ref am, .ref ad, .ref ab, .int 0, .int 0, .ref ar, .int 0, .int 0, .int 2, .int 0, .int 0, .int 0, .ref az, .ref ae, .ref ao, .ref an, .ref au, .int 0, .int 0, .int 0, .ref ap, .ref aw, .int 0, .int 0, .int 0, .int 0, .int 0])), (az, .inl (tz, 3, .inl rdy)), (ae, .inl (te, 3, .inl (fun _ => 0)))] sz) := by
  refine Met.ofW (cc := cX9_statusOf) (maxL := 2) (ret := (some .int)) (by decide) rfl ?_
  intro p e s m args below meth c s₁ B hml hv
  obtain ⟨rfl, hsz, hP, hK, hD0⟩ := hv
  have hx := B.exec
  have hb := B.bytes
  have hr := B.returns
  have hts := atoms_spec (ws := wsX9_statusOf) B.pre
  have hown : s.vm.findClass RX9 = some m.cls := findClass_of_methodNamed B.named
  have hlocks := B.notSynchronized
  subst hsz
  have hD := hD0.self (sz := s.heap.size)
  generalize hAe : va_A [(h0, .inr (8, [.int 0, .ref am, .ref ad, .ref ab, .int 0, .int 0, .ref ar, .int 0, .int 0, .int 2, .int 0, .int 0, .int 0, .ref az, .ref ae, .ref ao, .ref an, .ref au, .int 0, .int 0, .int 0, .ref ap, .ref aw, .int 0, .int 0, .int 0, .int 0, .int 0])), (az, .inl (tz, 3, .inl rdy)), (ae, .inl (te, 3, .inl (fun _ => 0)))] s.heap.size = A at hD ⊢
  have hA : ∀ q : Nat, s.heap.size ≤ q → A q := fun q h => by rw [← hAe]; exact Or.inr h
  have hS0 : ∀ G : Heap, s.heap = G → va_S A s.heap G [] := fun G h => by subst h; exact va_S.rf
  generalize hHe : s.heap = H at hP ⊢
  have hS := hS0 H hHe
  have hP : va_P (dC, dI) vwCl [(h0, .inr (8, [.int 0, .ref am, .ref ad, .ref ab, .int 0, .int 0, .ref ar, .int 0, .int 0, .int 2, .int 0, .int 0, .int 0, .ref az, .ref ae, .ref ao, .ref an, .ref au, .int 0, .int 0, .int 0, .ref ap, .ref aw, .int 0, .int 0, .int 0, .int 0, .int 0])), (az, .inl (tz, 3, .inl rdy)), (ae, .inl (te, 3, .inl (fun _ => 0)))] H := hP
  have hD : va_D A [(h0, .inr (8, [.int 0, .ref am, .ref ad, .ref ab, .int 0, .int 0, .ref ar, .int 0, .int 0, .int 2, .int 0, .int 0, .int 0, .ref az, .ref ae, .ref ao, .ref an, .ref au, .int 0, .int 0, .int 0, .ref ap, .ref aw, .int 0, .int 0, .int 0, .int 0, .int 0])), (az, .inl (tz, 3, .inl rdy)), (ae, .inl (te, 3, .inl (fun _ => 0)))] := hD
  have hK : va_K (dC, dI) vwCl [(tz, .boolean), (te, .boolean)] s := hK
  have hl := lv_entry ([.ref h0, .int 2]) (n := 2) (Nat.le_of_ble_eq_true rfl)
  rw [lg_entry_eq]
  generalize (lg_sl ([.ref h0, .int 2]) ++ List.replicate (2 - (lg_sl ([.ref h0, .int 2])).length) Slot.unset).toArray = ls at hl ⊢
  have hl : lv_has ls 2 [(0, .ref h0), (1, .int 2)] := hl
  refine lv_aload_n hx hb dX9_statusOf_0 rfl (lv_at hl 0 rfl) ?_
  refine va_get (D := (dC, dI)) (ci := 8) (v := .ref az) (C := RX9) (T := TX9) (N := 28) hx hb hts (by decide +kernel) hown hK hP 0 rfl rfl 13 (by decide) (hts (.fieldLink RX9 26 "UnibusMachineModel" "ready" "[Z") (by decide +kernel)) (fun _ h9 => h9) rfl dX9_statusOf_1 ?_
  refine lv_iload_n hx hb dX9_statusOf_4 rfl (lv_at hl 1 rfl) ?_
  refine va_zald (D := (dC, dI)) hx hb hK hP 1 0 rfl rfl (vp_in_iff.mpr (by decide)) dX9_statusOf_5 ?_
  refine lv_topi (fun y1 ey1 => ?_)
  obtain rfl : y1 = 1 := by rw [ey1]; decide +kernel
  refine lv_sipush (v := 128) hx hb dX9_statusOf_6 (by decide) ?_
  have hPc := hP.sub (ws' := []) [] rfl
  have hDc := hD.sub (ws' := []) [] (by decide) rfl
  have hKc := hK.sub (tys' := []) [] rfl
  have hFc := va_free (wc := []) hD hS hA [] rfl
  refine va_calli (va_runS (As := [.int 1, .int 128]) (rest := []) ⟨hx, hb, hml, hown, hts⟩ (c_mbit128 l dC dI  H.size) (va_cwS 2 hts gX9_statusOf_X9_bit rfl rfl rfl (by decide +kernel) ⟨Nat.le_of_ble_eq_true rfl, Nat.le_of_ble_eq_true rfl⟩) ⟨fun a U g mk q => by obtain ⟨q0, q1, qP, qK, qD⟩ := q; exact ⟨q0, q1, qP, va_K.moved (u := U) (U := U.calling g mk a) (Vm.Alike.refl U.vm) qK, qD⟩, fun U hU hW => ⟨rfl, by rw [hU], by rw [hU]; exact hPc, va_K.moved hW.alike hKc, hDc.weaken (fun _ _ _ _ => trivial)⟩⟩ rfl rfl hl.1 rfl (lv_room (Nat.le_of_ble_eq_true rfl)) dX9_statusOf_9 ⟨Nat.le_of_ble_eq_true rfl, Nat.le_of_ble_eq_true rfl⟩) hS (fun q _ h => hFc q h) hFc (fun r2 u3 t H1 locs ht hvm hw hB hz1 hk1 hS => ?_)
  obtain ⟨hP1, hK1, hD1⟩ := hB
  rw [ht] at hP1
  have hK1 := va_K.moved hvm.symm hK1
  try dsimp only at hw
  obtain ⟨hP, hD⟩ := va_join (wr := [(h0, .inr (8, [.int 0, .ref am, .ref ad, .ref ab, .int 0, .int 0, .ref ar, .int 0, .int 0, .int 2, .int 0, .int 0, .int 0, .ref az, .ref ae, .ref ao, .ref an, .ref au, .int 0, .int 0, .int 0, .ref ap, .ref aw, .int 0, .int 0, .int 0, .int 0, .int 0])), (az, .inl (tz, 3, .inl rdy)), (ae, .inl (te, 3, .inl (fun _ => 0)))]) (w1 := []) hP hD [] [0, 1, 2] rfl rfl (by decide) (by decide) hk1 hFc hP1 hD1
  have hK := (hK.sub (tys' := [(tz, .boolean), (te, .boolean)]) [0, 1] rfl).app hK1
  generalize H1 = H at hP hS ⊢
  have hP : va_P (dC, dI) vwCl [(h0, .inr (8, [.int 0, .ref am, .ref ad, .ref ab, .int 0, .int 0, .ref ar, .int 0, .int 0, .int 2, .int 0, .int 0, .int 0, .ref az, .ref ae, .ref ao, .ref an, .ref au, .int 0, .int 0, .int 0, .ref ap, .ref aw, .int 0, .int 0, .int 0, .int 0, .int 0])), (az, .inl (tz, 3, .inl rdy)), (ae, .inl (te, 3, .inl (fun _ => 0)))] H := hP
  have hD : va_D A [(h0, .inr (8, [.int 0, .ref am, .ref ad, .ref ab, .int 0, .int 0, .ref ar, .int 0, .int 0, .int 2, .int 0, .int 0, .int 0, .ref az, .ref ae, .ref ao, .ref an, .ref au, .int 0, .int 0, .int 0, .ref ap, .ref aw, .int 0, .int 0, .int 0, .int 0, .int 0])), (az, .inl (tz, 3, .inl rdy)), (ae, .inl (te, 3, .inl (fun _ => 0)))] := hD
  have hK : va_K (dC, dI) vwCl [(tz, .boolean), (te, .boolean)] s := hK
  obtain rfl := hw
  refine lv_aload_n hx hb dX9_statusOf_12 rfl (lv_at hl 0 rfl) ?_
  refine va_get (D := (dC, dI)) (ci := 8) (v := .ref ae) (C := RX9) (T := TX9) (N := 28) hx hb hts (by decide +kernel) hown hK hP 0 rfl rfl 14 (by decide) (hts (.fieldLink RX9 30 "UnibusMachineModel" "enabled" "[Z") (by decide +kernel)) (fun _ h9 => h9) rfl dX9_statusOf_13 ?_
  refine lv_iload_n hx hb dX9_statusOf_16 rfl (lv_at hl 1 rfl) ?_
  refine va_zald (D := (dC, dI)) hx hb hK hP 2 1 rfl rfl (vp_in_iff.mpr (by decide)) dX9_statusOf_17 ?_
  refine lv_bipush (v := 64) hx hb dX9_statusOf_18 (by decide) ?_
  have hPc := hP.sub (ws' := []) [] rfl
  have hDc := hD.sub (ws' := []) [] (by decide) rfl
  have hKc := hK.sub (tys' := []) [] rfl
  have hFc := va_free (wc := []) hD hS hA [] rfl
  refine va_calli (va_runS (As := [.int 0, .int 64]) (rest := [.int 128]) ⟨hx, hb, hml, hown, hts⟩ (c_mbit0 l dC dI 64 H.size) (va_cwS 2 hts gX9_statusOf_X9_bit rfl rfl rfl (by decide +kernel) ⟨Nat.le_of_ble_eq_true rfl, Nat.le_of_ble_eq_true rfl⟩) ⟨fun a U g mk q => by obtain ⟨q0, q1, qP, qK, qD⟩ := q; exact ⟨q0, q1, qP, va_K.moved (u := U) (U := U.calling g mk a) (Vm.Alike.refl U.vm) qK, qD⟩, fun U hU hW => ⟨rfl, by rw [hU], by rw [hU]; exact hPc, va_K.moved hW.alike hKc, hDc.weaken (fun _ _ _ _ => trivial)⟩⟩ rfl rfl hl.1 rfl (lv_room (Nat.le_of_ble_eq_true rfl)) dX9_statusOf_20 ⟨Nat.le_of_ble_eq_true rfl, Nat.le_of_ble_eq_true rfl⟩) hS (fun q _ h => hFc q h) hFc (fun r4 u5 t H1 locs ht hvm hw hB hz1 hk1 hS => ?_)
  obtain ⟨hP1, hK1, hD1⟩ := hB
  rw [ht] at hP1
  have hK1 := va_K.moved hvm.symm hK1
  try dsimp only at hw
  obtain ⟨hP, hD⟩ := va_join (wr := [(h0, .inr (8, [.int 0, .ref am, .ref ad, .ref ab, .int 0, .int 0, .ref ar, .int 0, .int 0, .int 2, .int 0, .int 0, .int 0, .ref az, .ref ae, .ref ao, .ref an, .ref au, .int 0, .int 0, .int 0, .ref ap, .ref aw, .int 0, .int 0, .int 0, .int 0, .int 0])), (az, .inl (tz, 3, .inl rdy)), (ae, .inl (te, 3, .inl (fun _ => 0)))]) (w1 := []) hP hD [] [0, 1, 2] rfl rfl (by decide) (by decide) hk1 hFc hP1 hD1
  have hK := (hK.sub (tys' := [(tz, .boolean), (te, .boolean)]) [0, 1] rfl).app hK1
  generalize H1 = H at hP hS ⊢
  have hP : va_P (dC, dI) vwCl [(h0, .inr (8, [.int 0, .ref am, .ref ad, .ref ab, .int 0, .int 0, .ref ar, .int 0, .int 0, .int 2, .int 0, .int 0, .int 0, .ref az, .ref ae, .ref ao, .ref an, .ref au, .int 0, .int 0, .int 0, .ref ap, .ref aw, .int 0, .int 0, .int 0, .int 0, .int 0])), (az, .inl (tz, 3, .inl rdy)), (ae, .inl (te, 3, .inl (fun _ => 0)))] H := hP
  have hD : va_D A [(h0, .inr (8, [.int 0, .ref am, .ref ad, .ref ab, .int 0, .int 0, .ref ar, .int 0, .int 0, .int 2, .int 0, .int 0, .int 0, .ref az, .ref ae, .ref ao, .ref an, .ref au, .int 0, .int 0, .int 0, .ref ap, .ref aw, .int 0, .int 0, .int 0, .int 0, .int 0])), (az, .inl (tz, 3, .inl rdy)), (ae, .inl (te, 3, .inl (fun _ => 0)))] := hD
  have hK : va_K (dC, dI) vwCl [(tz, .boolean), (te, .boolean)] s := hK
  obtain rfl := hw
  refine lv_iadd hx hb dX9_statusOf_23 ?_
  refine lv_topi (fun y6 ey6 => ?_)
  obtain rfl : y6 = 128 := by rw [ey6]; decide
  refine lv_iload_n hx hb dX9_statusOf_24 rfl (lv_at hl 1 rfl) ?_
  refine lv_if_ne (tgt := 49) hx hb dX9_statusOf_25 (by decide) (fun c7 => ?_) (fun c7 => ?_)
  · skip
    refine lv_iconst (v := 0) hx hb dX9_statusOf_49 (by decide) ?_
    refine lv_iadd hx hb dX9_statusOf_50 ?_
    refine lv_topi (fun y8 ey8 => ?_)
    obtain rfl : y8 = 128 := by rw [ey8]; decide
    have hP9 := hP.sub (ws' := [(h0, .inr (8, [.int 0, .ref am, .ref ad, .ref ab, .int 0, .int 0, .ref ar, .int 0, .int 0, .int 2, .int 0, .int 0, .int 0, .ref az, .ref ae, .ref ao, .ref an, .ref au, .int 0, .int 0, .int 0, .ref ap, .ref aw, .int 0, .int 0, .int 0, .int 0, .int 0])), (az, .inl (tz, 3, .inl rdy)), (ae, .inl (te, 3, .inl (fun _ => 0)))]) [0, 1, 2] rfl
    have hD9 := hD.sub (ws' := [(h0, .inr (8, [.int 0, .ref am, .ref ad, .ref ab, .int 0, .int 0, .ref ar, .int 0, .int 0, .int 2, .int 0, .int 0, .int 0, .ref az, .ref ae, .ref ao, .ref an, .ref au, .int 0, .int 0, .int 0, .ref ap, .ref aw, .int 0, .int 0, .int 0, .int 0, .int 0])), (az, .inl (tz, 3, .inl rdy)), (ae, .inl (te, 3, .inl (fun _ => 0)))]) [0, 1, 2] (by decide) rfl
    have hK9 := hK.sub (tys' := [(tz, .boolean), (te, .boolean)]) [0, 1] rfl
    exact W.iret (v := 128) hx hb hr (fun t ht hW => ⟨⟨128, (), rfl, rfl, by rw [ht]; exact hP9, va_K.moved hW.alike hK9, hD9⟩, hS.F ht⟩) hS.2.2 dX9_statusOf_51
  · exact absurd c7 (by decide)
set_option maxHeartbeats 4000000 in
set_option maxRecDepth 100000 in
theorem c_mat (l : Launch) (dC : Nat → ClassId) (dI : Nat → Nat → Nat) (h0 : Nat) (am : Nat) (ad : Nat) (ab : Nat) (ar : Nat) (az : Nat) (ae : Nat) (ao : Nat) (an : Nat) (au : Nat) (ap : Nat) (aw : Nat) (tm : ClassId) (td : ClassId) (tb : ClassId) (tz : ClassId) (te : ClassId) (p0 : Int32) (sz : Nat) (h9 : 57344 ≤ p0.toInt) (h8 : p0.toInt ≤ 65535) (h7 : p0.toInt % 2 = 0) : Met l yX9_at wsX9_at ({ frames := 2, cells := 0, slots := 0, locals := 42 } : Room) (va_Pc [.ref h0, .int p0] (fun U => U.heap.size = sz ∧ va_P (dC, dI) vwCl [(h0, .inr (8, [.int 0, .ref am, .ref ad, .ref ab, .int 0, .int 0, .ref ar, .int 0, .int 0, .int 2, .int 0, .int 0, .int 0, .ref az, .ref ae, .ref ao, .ref an, .ref au, .int 0, .int 0, .int 0, .ref ap, .ref aw, .int 0, .int 0, .int 0, .int 0, .int 0])), (am, .inl (tm, 512, .inl (fun _ => 0))), (ad, .inl (td, 16, .inl (fun _ => 0))), (ab, .inl (tb, 16, .inl (fun _ => 0))), (az, .inl (tz, 3, .inl rdy)), (ae, .inl (te, 3, .inl (fun _ => 0)))] U.heap ∧ va_K (dC, dI) vwCl [(tm, .int), (td, .int), (tb, .int), (tz, .boolean), (te, .boolean)] U ∧ va_D (fun _ => True) [(h0, .inr (8, [.int 0, .ref am, .ref ad, .ref ab, .int 0, .int 0, .ref ar, .int 0, .int 0, .int 2, .int 0, .int 0, .int 0, .ref az, .ref ae, .ref ao, .ref an, .ref au, .int 0, .int 0, .int 0, .ref ap, .ref aw, .int 0, .int 0, .int 0, .int 0, .int 0])), (am, .inl (tm, 512, .inl (fun _ => 0))), (ad, .inl (td, 16, .inl (fun _ => 0))), (ab, .inl (tb, 16, .inl (fun _ => 0))), (az, .inl (tz, 3, .inl rdy)), (ae, .inl (te, 3, .inl (fun _ => 0)))])) (va_Qi (fun (r : Int32) (u : Unit) => r = dv p0.toInt) (fun (u : Unit) (t : State) => va_P (dC, dI) vwCl [(h0, .inr (8, [.int 0, .ref am, .ref ad, .ref ab, .int 0, .int 0, .ref ar, .int 0, .int 0, .int 2, .int 0, .int 0, .int 0, .ref az, .ref ae, .ref ao, .ref an, .ref au, .int 0, .int 0, .int 0, .ref ap, .ref aw, .int 0, .int 0, .int 0, .int 0, .int 0])), (am, .inl (tm, 512, .inl (fun _ => 0))), (ad, .inl (td, 16, .inl (fun _ => 0))), (ab, .inl (tb, 16, .inl (fun _ => 0))), (az, .inl (tz, 3, .inl rdy)), (ae, .inl (te, 3, .inl (fun _ => 0)))] t.heap ∧ va_K (dC, dI) vwCl [(tm, .int), (td, .int), (tb, .int), (tz, .boolean), (te, .boolean)] t ∧ va_D (va_A [(h0, .inr (8, [.int 0, .ref am, .ref ad, .ref ab, .int 0, .int 0, .ref ar, .int 0, .int 0, .int 2, .int 0, .int 0, .int 0, .ref az, .ref ae, .ref ao, .ref an, .ref au, .int 0, .int 0, .int 0, .ref ap, .ref aw, .int 0, .int 0, .int 0, .int 0, .int 0])), (am, .inl (tm, 512, .inl (fun _ => 0))), (ad, .inl (td, 16, .inl (fun _ => 0))), (ab, .inl (tb, 16, .inl (fun _ => 0))), (az, .inl (tz, 3, .inl rdy)), (ae, .inl (te, 3, .inl (fun _ => 0)))] sz) [(h0, .inr (8, [.int 0, .ref am, .ref ad, .ref ab, .int 0, .int 0, .ref ar, .int 0, .int 0, .int 2, .int 0, .int 0, .int 0, .ref az, .ref ae, .ref ao, .ref an, .ref au, .int 0, .int 0, .int 0, .ref ap, .ref aw, .int 0, .int 0, .int 0, .int 0, .int 0])), (am, .inl (tm, 512, .inl (fun _ => 0))), (ad, .inl (td, 16, .inl (fun _ => 0))), (ab, .inl (tb, 16, .inl (fun _ => 0))), (az, .inl (tz, 3, .inl rdy)), (ae, .inl (te, 3, .inl (fun _ => 0)))]) (va_A [(h0, .inr (8, [.int 0, .ref am, .ref ad, .ref ab, .int 0, .int 0, .ref ar, .int 0, .int 0, .int 2, .int 0, .int 0, .int 0, .ref az, .ref ae, .ref ao, .ref an, .ref au, .int 0, .int 0, .int 0, .ref ap, .ref aw, .int 0, .int 0, .int 0, .int 0, .int 0])), (am, .inl (tm, 512, .inl (fun _ => 0))), (ad, .inl (td, 16, .inl (fun _ => 0))), (ab, .inl (tb, 16, .inl (fun _ => 0))), (az, .inl (tz, 3, .inl rdy)), (ae, .inl (te, 3, .inl (fun _ => 0)))] sz)) 0 0 (va_A [(h0, .inr (8, [.int 0, .ref am, .ref ad, .ref ab, .int 0, .int 0, .ref ar, .int 0, .int 0, .int 2, .int 0, .int 0, .int 0, .ref az, .ref ae, .ref ao, .ref an, .ref au, .int 0, .int 0, .int 0, .ref ap, .ref aw, .int 0, .int 0, .int 0, .int 0, .int 0])), (am, .inl (tm, 512, .inl (fun _ => 0))), (ad, .inl (td, 16, .inl (fun _ => 0))), (ab, .inl (tb, 16, .inl (fun _ => 0))), (az, .inl (tz, 3, .inl rdy)), (ae, .inl (te, 3, .inl (fun _ => 0)))] sz) := by
  refine Met.ofW (cc := cX9_at) (maxL := 3) (ret := (some .int)) (by decide) rfl ?_
  intro p e s m args below meth c s₁ B hml hv
  obtain ⟨rfl, hsz, hP, hK, hD0⟩ := hv
  have hx := B.exec
  have hb := B.bytes
  have hr := B.returns
  have hts := atoms_spec (ws := wsX9_at) B.pre
  have hown : s.vm.findClass RX9 = some m.cls := findClass_of_methodNamed B.named
  have hlocks := B.notSynchronized
  subst hsz
  have hD := hD0.self (sz := s.heap.size)
  generalize hAe : va_A [(h0, .inr (8, [.int 0, .ref am, .ref ad, .ref ab, .int 0, .int 0, .ref ar, .int 0, .int 0, .int 2, .int 0, .int 0, .int 0, .ref az, .ref ae, .ref ao, .ref an, .ref au, .int 0, .int 0, .int 0, .ref ap, .ref aw, .int 0, .int 0, .int 0, .int 0, .int 0])), (am, .inl (tm, 512, .inl (fun _ => 0))), (ad, .inl (td, 16, .inl (fun _ => 0))), (ab, .inl (tb, 16, .inl (fun _ => 0))), (az, .inl (tz, 3, .inl rdy)), (ae, .inl (te, 3, .inl (fun _ => 0)))] s.heap.size = A at hD ⊢
  have hA : ∀ q : Nat, s.heap.size ≤ q → A q := fun q h => by rw [← hAe]; exact Or.inr h
  have hS0 : ∀ G : Heap, s.heap = G → va_S A s.heap G [] := fun G h => by subst h; exact va_S.rf
  generalize hHe : s.heap = H at hP ⊢
  have hS := hS0 H hHe
  have hP : va_P (dC, dI) vwCl [(h0, .inr (8, [.int 0, .ref am, .ref ad, .ref ab, .int 0, .int 0, .ref ar, .int 0, .int 0, .int 2, .int 0, .int 0, .int 0, .ref az, .ref ae, .ref ao, .ref an, .ref au, .int 0, .int 0, .int 0, .ref ap, .ref aw, .int 0, .int 0, .int 0, .int 0, .int 0])), (am, .inl (tm, 512, .inl (fun _ => 0))), (ad, .inl (td, 16, .inl (fun _ => 0))), (ab, .inl (tb, 16, .inl (fun _ => 0))), (az, .inl (tz, 3, .inl rdy)), (ae, .inl (te, 3, .inl (fun _ => 0)))] H := hP
  have hD : va_D A [(h0, .inr (8, [.int 0, .ref am, .ref ad, .ref ab, .int 0, .int 0, .ref ar, .int 0, .int 0, .int 2, .int 0, .int 0, .int 0, .ref az, .ref ae, .ref ao, .ref an, .ref au, .int 0, .int 0, .int 0, .ref ap, .ref aw, .int 0, .int 0, .int 0, .int 0, .int 0])), (am, .inl (tm, 512, .inl (fun _ => 0))), (ad, .inl (td, 16, .inl (fun _ => 0))), (ab, .inl (tb, 16, .inl (fun _ => 0))), (az, .inl (tz, 3, .inl rdy)), (ae, .inl (te, 3, .inl (fun _ => 0)))] := hD
  have hK : va_K (dC, dI) vwCl [(tm, .int), (td, .int), (tb, .int), (tz, .boolean), (te, .boolean)] s := hK
  have hl := lv_entry ([.ref h0, .int p0]) (n := 3) (Nat.le_of_ble_eq_true rfl)
  rw [lg_entry_eq]
  generalize (lg_sl ([.ref h0, .int p0]) ++ List.replicate (3 - (lg_sl ([.ref h0, .int p0])).length) Slot.unset).toArray = ls at hl ⊢
  have hl : lv_has ls 3 [(0, .ref h0), (1, .int p0)] := hl
  have kk0 : (0 : Int32).toInt = 0 := by decide
  have kk1024 : (1024 : Int32).toInt = 1024 := by decide
  have kk57344 : (57344 : Int32).toInt = 57344 := by decide
  have kk32 : (32 : Int32).toInt = 32 := by decide
  have kk64 : (64 : Int32).toInt = 64 := by decide
  have kk80 : (80 : Int32).toInt = 80 := by decide
  have kk82 : (82 : Int32).toInt = 82 := by decide
  have kk84 : (84 : Int32).toInt = 84 := by decide
  have kk86 : (86 : Int32).toInt = 86 := by decide
  have kk96 : (96 : Int32).toInt = 96 := by decide
  have kk98 : (98 : Int32).toInt = 98 := by decide
  have kk100 : (100 : Int32).toInt = 100 := by decide
  have kk102 : (102 : Int32).toInt = 102 := by decide
  have kk126 : (126 : Int32).toInt = 126 := by decide
  refine lv_iload_n hx hb dX9_at_0 rfl (lv_at hl 1 rfl) ?_
  refine lv_sipush (v := 1024) hx hb dX9_at_1 (by decide) ?_
  refine lv_icmp_ge (tgt := 16) hx hb dX9_at_4 (by decide) (fun c1 => ?_) (fun c1 => ?_)
  · have c1 := fz_le.mp c1
    have kk1024 : (1024 : Int32).toInt = 1024 := by decide
    refine lv_iload_n hx hb dX9_at_16 rfl (lv_at hl 1 rfl) ?_
    refine lv_ldc (v := 57344) hx hb hown (hts (.constant RX9 64 (57344)) (by decide +kernel)) dX9_at_17 ?_
    refine lv_isub hx hb dX9_at_19 ?_
    have f1 := fz_sub p0 57344 (by omega) (by omega)
    refine lv_istore_n (lv' := [(2, .int (p0 - 57344)), (0, .ref h0), (1, .int p0)]) hx hb dX9_at_20 rfl hl (by decide) rfl (fun ls hl => ?_)
    refine lv_iload_n hx hb dX9_at_21 rfl (lv_at hl 0 rfl) ?_
    refine lv_if_ge (tgt := 27) hx hb dX9_at_22 (by decide) (fun c2 => ?_) (fun c2 => ?_)
    · have c2 := fz_le.mp c2
      have kk0 : (0 : Int32).toInt = 0 := by decide
      refine lv_iload_n hx hb dX9_at_27 rfl (lv_at hl 0 rfl) ?_
      refine lv_bipush (v := 32) hx hb dX9_at_28 (by decide) ?_
      refine lv_icmp_ge (tgt := 42) hx hb dX9_at_30 (by decide) (fun c3 => ?_) (fun c3 => ?_)
      · have c3 := fz_le.mp c3
        have kk32 : (32 : Int32).toInt = 32 := by decide
        refine lv_iload_n hx hb dX9_at_42 rfl (lv_at hl 0 rfl) ?_
        refine lv_bipush (v := 64) hx hb dX9_at_43 (by decide) ?_
        refine lv_icmp_ge (tgt := 60) hx hb dX9_at_45 (by decide) (fun c4 => ?_) (fun c4 => ?_)
        · have c4 := fz_le.mp c4
          have kk64 : (64 : Int32).toInt = 64 := by decide
          refine lv_iload_n hx hb dX9_at_60 rfl (lv_at hl 0 rfl) ?_
          refine lv_bipush (v := 64) hx hb dX9_at_61 (by decide) ?_
          refine lv_icmp_ne (tgt := 71) hx hb dX9_at_63 (by decide) (fun c5 => ?_) (fun c5 => ?_)
          · have c5 := fz_ne.mp c5
            have kk64 : (64 : Int32).toInt = 64 := by decide
            refine lv_iload_n hx hb dX9_at_71 rfl (lv_at hl 0 rfl) ?_
            refine lv_bipush (v := 80) hx hb dX9_at_72 (by decide) ?_
            refine lv_icmp_ne (tgt := 83) hx hb dX9_at_74 (by decide) (fun c6 => ?_) (fun c6 => ?_)
            · have c6 := fz_ne.mp c6
              have kk80 : (80 : Int32).toInt = 80 := by decide
              refine lv_iload_n hx hb dX9_at_83 rfl (lv_at hl 0 rfl) ?_
              refine lv_bipush (v := 82) hx hb dX9_at_84 (by decide) ?_
              refine lv_icmp_ne (tgt := 94) hx hb dX9_at_86 (by decide) (fun c7 => ?_) (fun c7 => ?_)
              · have c7 := fz_ne.mp c7
                have kk82 : (82 : Int32).toInt = 82 := by decide
                refine lv_iload_n hx hb dX9_at_94 rfl (lv_at hl 0 rfl) ?_
                refine lv_bipush (v := 84) hx hb dX9_at_95 (by decide) ?_
                refine lv_icmp_ne (tgt := 106) hx hb dX9_at_97 (by decide) (fun c8 => ?_) (fun c8 => ?_)
                · have c8 := fz_ne.mp c8
                  have kk84 : (84 : Int32).toInt = 84 := by decide
                  refine lv_iload_n hx hb dX9_at_106 rfl (lv_at hl 0 rfl) ?_
                  refine lv_bipush (v := 86) hx hb dX9_at_107 (by decide) ?_
                  refine lv_icmp_ne (tgt := 114) hx hb dX9_at_109 (by decide) (fun c9 => ?_) (fun c9 => ?_)
                  · have c9 := fz_ne.mp c9
                    have kk86 : (86 : Int32).toInt = 86 := by decide
                    refine lv_iload_n hx hb dX9_at_114 rfl (lv_at hl 0 rfl) ?_
                    refine lv_bipush (v := 96) hx hb dX9_at_115 (by decide) ?_
                    refine lv_icmp_ne (tgt := 126) hx hb dX9_at_117 (by decide) (fun c10 => ?_) (fun c10 => ?_)
                    · have c10 := fz_ne.mp c10
                      have kk96 : (96 : Int32).toInt = 96 := by decide
                      refine lv_iload_n hx hb dX9_at_126 rfl (lv_at hl 0 rfl) ?_
                      refine lv_bipush (v := 98) hx hb dX9_at_127 (by decide) ?_
                      refine lv_icmp_ne (tgt := 137) hx hb dX9_at_129 (by decide) (fun c11 => ?_) (fun c11 => ?_)
                      · have c11 := fz_ne.mp c11
                        have kk98 : (98 : Int32).toInt = 98 := by decide
                        refine lv_iload_n hx hb dX9_at_137 rfl (lv_at hl 0 rfl) ?_
                        refine lv_bipush (v := 100) hx hb dX9_at_138 (by decide) ?_
                        refine lv_icmp_ne (tgt := 148) hx hb dX9_at_140 (by decide) (fun c12 => ?_) (fun c12 => ?_)
                        · have c12 := fz_ne.mp c12
                          have kk100 : (100 : Int32).toInt = 100 := by decide
                          refine lv_iload_n hx hb dX9_at_148 rfl (lv_at hl 0 rfl) ?_
                          refine lv_bipush (v := 102) hx hb dX9_at_149 (by decide) ?_
                          refine lv_icmp_ne (tgt := 159) hx hb dX9_at_151 (by decide) (fun c13 => ?_) (fun c13 => ?_)
                          · have c13 := fz_ne.mp c13
                            have kk102 : (102 : Int32).toInt = 102 := by decide
                            refine lv_iload_n hx hb dX9_at_159 rfl (lv_at hl 0 rfl) ?_
                            refine lv_bipush (v := 126) hx hb dX9_at_160 (by decide) ?_
                            refine lv_icmp_ne (tgt := 172) hx hb dX9_at_162 (by decide) (fun c14 => ?_) (fun c14 => ?_)
                            · have c14 := fz_ne.mp c14
                              have kk126 : (126 : Int32).toInt = 126 := by decide
                              refine lv_iconst (v := (-1)) hx hb dX9_at_172 (by decide) ?_
                              have hP9 := hP.sub (ws' := [(h0, .inr (8, [.int 0, .ref am, .ref ad, .ref ab, .int 0, .int 0, .ref ar, .int 0, .int 0, .int 2, .int 0, .int 0, .int 0, .ref az, .ref ae, .ref ao, .ref an, .ref au, .int 0, .int 0, .int 0, .ref ap, .ref aw, .int 0, .int 0, .int 0, .int 0, .int 0])), (am, .inl (tm, 512, .inl (fun _ => 0))), (ad, .inl (td, 16, .inl (fun _ => 0))), (ab, .inl (tb, 16, .inl (fun _ => 0))), (az, .inl (tz, 3, .inl rdy)), (ae, .inl (te, 3, .inl (fun _ => 0)))]) [0, 1, 2, 3, 4, 5] rfl
                              have hD9 := hD.sub (ws' := [(h0, .inr (8, [.int 0, .ref am, .ref ad, .ref ab, .int 0, .int 0, .ref ar, .int 0, .int 0, .int 2, .int 0, .int 0, .int 0, .ref az, .ref ae, .ref ao, .ref an, .ref au, .int 0, .int 0, .int 0, .ref ap, .ref aw, .int 0, .int 0, .int 0, .int 0, .int 0])), (am, .inl (tm, 512, .inl (fun _ => 0))), (ad, .inl (td, 16, .inl (fun _ => 0))), (ab, .inl (tb, 16, .inl (fun _ => 0))), (az, .inl (tz, 3, .inl rdy)), (ae, .inl (te, 3, .inl (fun _ => 0)))]) [0, 1, 2, 3, 4, 5] (by decide) rfl
                              have hK9 := hK.sub (tys' := [(tm, .int), (td, .int), (tb, .int), (tz, .boolean), (te, .boolean)]) [0, 1, 2, 3, 4] rfl
                              exact W.iret (v := (-1)) hx hb hr (fun t ht hW => ⟨⟨(-1), (), rfl, (by first | (exact dv_pos (by omega)) | (exact dv_zero (by omega) (by omega)) | (exact dv_neg (by omega) (by omega))), by rw [ht]; exact hP9, va_K.moved hW.alike hK9, hD9⟩, hS.F ht⟩) hS.2.2 dX9_at_173
                            · have c14 := fz_eq.mp c14
                              have kk126 : (126 : Int32).toInt = 126 := by decide
                              refine lv_aload_n hx hb dX9_at_165 rfl (lv_at hl 1 rfl) ?_
                              refine va_get (D := (dC, dI)) (ci := 8) (v := .int 0) (C := RX9) (T := TX9) (N := 28) hx hb hts (by decide +kernel) hown hK hP 0 rfl rfl 5 (by decide) (hts (.fieldLink RX9 84 "UnibusMachineModel" "status" "I") (by decide +kernel)) (fun _ h9 => h9) rfl dX9_at_166 ?_
                              refine lv_goto (tgt := 173) hx hb dX9_at_169 (by decide) ?_
                              have hP9 := hP.sub (ws' := [(h0, .inr (8, [.int 0, .ref am, .ref ad, .ref ab, .int 0, .int 0, .ref ar, .int 0, .int 0, .int 2, .int 0, .int 0, .int 0, .ref az, .ref ae, .ref ao, .ref an, .ref au, .int 0, .int 0, .int 0, .ref ap, .ref aw, .int 0, .int 0, .int 0, .int 0, .int 0])), (am, .inl (tm, 512, .inl (fun _ => 0))), (ad, .inl (td, 16, .inl (fun _ => 0))), (ab, .inl (tb, 16, .inl (fun _ => 0))), (az, .inl (tz, 3, .inl rdy)), (ae, .inl (te, 3, .inl (fun _ => 0)))]) [0, 1, 2, 3, 4, 5] rfl
                              have hD9 := hD.sub (ws' := [(h0, .inr (8, [.int 0, .ref am, .ref ad, .ref ab, .int 0, .int 0, .ref ar, .int 0, .int 0, .int 2, .int 0, .int 0, .int 0, .ref az, .ref ae, .ref ao, .ref an, .ref au, .int 0, .int 0, .int 0, .ref ap, .ref aw, .int 0, .int 0, .int 0, .int 0, .int 0])), (am, .inl (tm, 512, .inl (fun _ => 0))), (ad, .inl (td, 16, .inl (fun _ => 0))), (ab, .inl (tb, 16, .inl (fun _ => 0))), (az, .inl (tz, 3, .inl rdy)), (ae, .inl (te, 3, .inl (fun _ => 0)))]) [0, 1, 2, 3, 4, 5] (by decide) rfl
                              have hK9 := hK.sub (tys' := [(tm, .int), (td, .int), (tb, .int), (tz, .boolean), (te, .boolean)]) [0, 1, 2, 3, 4] rfl
                              exact W.iret (v := 0) hx hb hr (fun t ht hW => ⟨⟨0, (), rfl, (by first | (exact dv_pos (by omega)) | (exact dv_zero (by omega) (by omega)) | (exact dv_neg (by omega) (by omega))), by rw [ht]; exact hP9, va_K.moved hW.alike hK9, hD9⟩, hS.F ht⟩) hS.2.2 dX9_at_173
                          · have c13 := fz_eq.mp c13
                            have kk102 : (102 : Int32).toInt = 102 := by decide
                            refine lv_aload_n hx hb dX9_at_154 rfl (lv_at hl 1 rfl) ?_
                            refine va_get (D := (dC, dI)) (ci := 8) (v := .int 0) (C := RX9) (T := TX9) (N := 28) hx hb hts (by decide +kernel) hown hK hP 0 rfl rfl 27 (by decide) (hts (.fieldLink RX9 81 "UnibusMachineModel" "sector" "I") (by decide +kernel)) (fun _ h9 => h9) rfl dX9_at_155 ?_
                            have hP9 := hP.sub (ws' := [(h0, .inr (8, [.int 0, .ref am, .ref ad, .ref ab, .int 0, .int 0, .ref ar, .int 0, .int 0, .int 2, .int 0, .int 0, .int 0, .ref az, .ref ae, .ref ao, .ref an, .ref au, .int 0, .int 0, .int 0, .ref ap, .ref aw, .int 0, .int 0, .int 0, .int 0, .int 0])), (am, .inl (tm, 512, .inl (fun _ => 0))), (ad, .inl (td, 16, .inl (fun _ => 0))), (ab, .inl (tb, 16, .inl (fun _ => 0))), (az, .inl (tz, 3, .inl rdy)), (ae, .inl (te, 3, .inl (fun _ => 0)))]) [0, 1, 2, 3, 4, 5] rfl
                            have hD9 := hD.sub (ws' := [(h0, .inr (8, [.int 0, .ref am, .ref ad, .ref ab, .int 0, .int 0, .ref ar, .int 0, .int 0, .int 2, .int 0, .int 0, .int 0, .ref az, .ref ae, .ref ao, .ref an, .ref au, .int 0, .int 0, .int 0, .ref ap, .ref aw, .int 0, .int 0, .int 0, .int 0, .int 0])), (am, .inl (tm, 512, .inl (fun _ => 0))), (ad, .inl (td, 16, .inl (fun _ => 0))), (ab, .inl (tb, 16, .inl (fun _ => 0))), (az, .inl (tz, 3, .inl rdy)), (ae, .inl (te, 3, .inl (fun _ => 0)))]) [0, 1, 2, 3, 4, 5] (by decide) rfl
                            have hK9 := hK.sub (tys' := [(tm, .int), (td, .int), (tb, .int), (tz, .boolean), (te, .boolean)]) [0, 1, 2, 3, 4] rfl
                            exact W.iret (v := 0) hx hb hr (fun t ht hW => ⟨⟨0, (), rfl, (by first | (exact dv_pos (by omega)) | (exact dv_zero (by omega) (by omega)) | (exact dv_neg (by omega) (by omega))), by rw [ht]; exact hP9, va_K.moved hW.alike hK9, hD9⟩, hS.F ht⟩) hS.2.2 dX9_at_158
                        · have c12 := fz_eq.mp c12
                          have kk100 : (100 : Int32).toInt = 100 := by decide
                          refine lv_aload_n hx hb dX9_at_143 rfl (lv_at hl 1 rfl) ?_
                          refine va_get (D := (dC, dI)) (ci := 8) (v := .int 0) (C := RX9) (T := TX9) (N := 28) hx hb hts (by decide +kernel) hown hK hP 0 rfl rfl 26 (by decide) (hts (.fieldLink RX9 78 "UnibusMachineModel" "from" "I") (by decide +kernel)) (fun _ h9 => h9) rfl dX9_at_144 ?_
                          have hP9 := hP.sub (ws' := [(h0, .inr (8, [.int 0, .ref am, .ref ad, .ref ab, .int 0, .int 0, .ref ar, .int 0, .int 0, .int 2, .int 0, .int 0, .int 0, .ref az, .ref ae, .ref ao, .ref an, .ref au, .int 0, .int 0, .int 0, .ref ap, .ref aw, .int 0, .int 0, .int 0, .int 0, .int 0])), (am, .inl (tm, 512, .inl (fun _ => 0))), (ad, .inl (td, 16, .inl (fun _ => 0))), (ab, .inl (tb, 16, .inl (fun _ => 0))), (az, .inl (tz, 3, .inl rdy)), (ae, .inl (te, 3, .inl (fun _ => 0)))]) [0, 1, 2, 3, 4, 5] rfl
                          have hD9 := hD.sub (ws' := [(h0, .inr (8, [.int 0, .ref am, .ref ad, .ref ab, .int 0, .int 0, .ref ar, .int 0, .int 0, .int 2, .int 0, .int 0, .int 0, .ref az, .ref ae, .ref ao, .ref an, .ref au, .int 0, .int 0, .int 0, .ref ap, .ref aw, .int 0, .int 0, .int 0, .int 0, .int 0])), (am, .inl (tm, 512, .inl (fun _ => 0))), (ad, .inl (td, 16, .inl (fun _ => 0))), (ab, .inl (tb, 16, .inl (fun _ => 0))), (az, .inl (tz, 3, .inl rdy)), (ae, .inl (te, 3, .inl (fun _ => 0)))]) [0, 1, 2, 3, 4, 5] (by decide) rfl
                          have hK9 := hK.sub (tys' := [(tm, .int), (td, .int), (tb, .int), (tz, .boolean), (te, .boolean)]) [0, 1, 2, 3, 4] rfl
                          exact W.iret (v := 0) hx hb hr (fun t ht hW => ⟨⟨0, (), rfl, (by first | (exact dv_pos (by omega)) | (exact dv_zero (by omega) (by omega)) | (exact dv_neg (by omega) (by omega))), by rw [ht]; exact hP9, va_K.moved hW.alike hK9, hD9⟩, hS.F ht⟩) hS.2.2 dX9_at_147
                      · have c11 := fz_eq.mp c11
                        have kk98 : (98 : Int32).toInt = 98 := by decide
                        refine lv_aload_n hx hb dX9_at_132 rfl (lv_at hl 1 rfl) ?_
                        refine va_get (D := (dC, dI)) (ci := 8) (v := .int 0) (C := RX9) (T := TX9) (N := 28) hx hb hts (by decide +kernel) hown hK hP 0 rfl rfl 25 (by decide) (hts (.fieldLink RX9 75 "UnibusMachineModel" "many" "I") (by decide +kernel)) (fun _ h9 => h9) rfl dX9_at_133 ?_
                        have hP9 := hP.sub (ws' := [(h0, .inr (8, [.int 0, .ref am, .ref ad, .ref ab, .int 0, .int 0, .ref ar, .int 0, .int 0, .int 2, .int 0, .int 0, .int 0, .ref az, .ref ae, .ref ao, .ref an, .ref au, .int 0, .int 0, .int 0, .ref ap, .ref aw, .int 0, .int 0, .int 0, .int 0, .int 0])), (am, .inl (tm, 512, .inl (fun _ => 0))), (ad, .inl (td, 16, .inl (fun _ => 0))), (ab, .inl (tb, 16, .inl (fun _ => 0))), (az, .inl (tz, 3, .inl rdy)), (ae, .inl (te, 3, .inl (fun _ => 0)))]) [0, 1, 2, 3, 4, 5] rfl
                        have hD9 := hD.sub (ws' := [(h0, .inr (8, [.int 0, .ref am, .ref ad, .ref ab, .int 0, .int 0, .ref ar, .int 0, .int 0, .int 2, .int 0, .int 0, .int 0, .ref az, .ref ae, .ref ao, .ref an, .ref au, .int 0, .int 0, .int 0, .ref ap, .ref aw, .int 0, .int 0, .int 0, .int 0, .int 0])), (am, .inl (tm, 512, .inl (fun _ => 0))), (ad, .inl (td, 16, .inl (fun _ => 0))), (ab, .inl (tb, 16, .inl (fun _ => 0))), (az, .inl (tz, 3, .inl rdy)), (ae, .inl (te, 3, .inl (fun _ => 0)))]) [0, 1, 2, 3, 4, 5] (by decide) rfl
                        have hK9 := hK.sub (tys' := [(tm, .int), (td, .int), (tb, .int), (tz, .boolean), (te, .boolean)]) [0, 1, 2, 3, 4] rfl
                        exact W.iret (v := 0) hx hb hr (fun t ht hW => ⟨⟨0, (), rfl, (by first | (exact dv_pos (by omega)) | (exact dv_zero (by omega) (by omega)) | (exact dv_neg (by omega) (by omega))), by rw [ht]; exact hP9, va_K.moved hW.alike hK9, hD9⟩, hS.F ht⟩) hS.2.2 dX9_at_136
                    · have c10 := fz_eq.mp c10
                      have kk96 : (96 : Int32).toInt = 96 := by decide
                      refine lv_aload_n hx hb dX9_at_120 rfl (lv_at hl 1 rfl) ?_
                      refine lv_iconst (v := 0) hx hb dX9_at_121 (by decide) ?_
                      have hPc := hP.sub (ws' := [(h0, .inr (8, [.int 0, .ref am, .ref ad, .ref ab, .int 0, .int 0, .ref ar, .int 0, .int 0, .int 2, .int 0, .int 0, .int 0, .ref az, .ref ae, .ref ao, .ref an, .ref au, .int 0, .int 0, .int 0, .ref ap, .ref aw, .int 0, .int 0, .int 0, .int 0, .int 0])), (az, .inl (tz, 3, .inl rdy)), (ae, .inl (te, 3, .inl (fun _ => 0)))]) [0, 4, 5] rfl
                      have hDc := hD.sub (ws' := [(h0, .inr (8, [.int 0, .ref am, .ref ad, .ref ab, .int 0, .int 0, .ref ar, .int 0, .int 0, .int 2, .int 0, .int 0, .int 0, .ref az, .ref ae, .ref ao, .ref an, .ref au, .int 0, .int 0, .int 0, .ref ap, .ref aw, .int 0, .int 0, .int 0, .int 0, .int 0])), (az, .inl (tz, 3, .inl rdy)), (ae, .inl (te, 3, .inl (fun _ => 0)))]) [0, 4, 5] (by decide) rfl
                      have hKc := hK.sub (tys' := [(tz, .boolean), (te, .boolean)]) [3, 4] rfl
                      have hFc := va_free (wc := [(h0, .inr (8, [.int 0, .ref am, .ref ad, .ref ab, .int 0, .int 0, .ref ar, .int 0, .int 0, .int 2, .int 0, .int 0, .int 0, .ref az, .ref ae, .ref ao, .ref an, .ref au, .int 0, .int 0, .int 0, .ref ap, .ref aw, .int 0, .int 0, .int 0, .int 0, .int 0])), (az, .inl (tz, 3, .inl rdy)), (ae, .inl (te, 3, .inl (fun _ => 0)))]) hD hS hA [0, 4, 5] rfl
                      refine va_calli (va_runV (As := [.int 0]) (rest := []) ⟨hx, hb, hml, hown, hts⟩ (c_mstatusOf0 l dC dI h0 am ad ab ar az ae ao an au ap aw tz te H.size) (cwV 1 hts gX9_at_X9_statusOf rfl rfl rfl (by decide +kernel) ⟨Nat.le_of_ble_eq_true rfl, Nat.le_of_ble_eq_true rfl⟩) ⟨fun a U g mk q => by obtain ⟨q0, q1, qP, qK, qD⟩ := q; exact ⟨q0, q1, qP, va_K.moved (u := U) (U := U.calling g mk a) (Vm.Alike.refl U.vm) qK, qD⟩, va_recv hKc hPc (ci := 8) (q0 := 0) rfl rfl, fun U hU hW => ⟨rfl, by rw [hU], by rw [hU]; exact hPc, va_K.moved hW.alike hKc, hDc.weaken (fun _ _ _ _ => trivial)⟩⟩ rfl rfl hl.1 rfl (lv_room (Nat.le_of_ble_eq_true rfl)) dX9_at_122 ⟨Nat.le_of_ble_eq_true rfl, Nat.le_of_ble_eq_true rfl⟩) hS (fun q _ h => hFc q h) hFc (fun r15 u16 t H1 locs ht hvm hw hB hz1 hk1 hS => ?_)
                      obtain ⟨hP1, hK1, hD1⟩ := hB
                      rw [ht] at hP1
                      have hK1 := va_K.moved hvm.symm hK1
                      try dsimp only at hw
                      obtain ⟨hP, hD⟩ := va_join (wr := [(am, .inl (tm, 512, .inl (fun _ => 0))), (ad, .inl (td, 16, .inl (fun _ => 0))), (ab, .inl (tb, 16, .inl (fun _ => 0)))]) (w1 := [(h0, .inr (8, [.int 0, .ref am, .ref ad, .ref ab, .int 0, .int 0, .ref ar, .int 0, .int 0, .int 2, .int 0, .int 0, .int 0, .ref az, .ref ae, .ref ao, .ref an, .ref au, .int 0, .int 0, .int 0, .ref ap, .ref aw, .int 0, .int 0, .int 0, .int 0, .int 0])), (az, .inl (tz, 3, .inl rdy)), (ae, .inl (te, 3, .inl (fun _ => 0)))]) hP hD [0, 4, 5] [1, 2, 3] rfl rfl (by decide) (by decide) hk1 hFc hP1 hD1
                      have hK := (hK.sub (tys' := [(tm, .int), (td, .int), (tb, .int)]) [0, 1, 2] rfl).app hK1
                      generalize H1 = H at hP hS ⊢
                      have hP : va_P (dC, dI) vwCl [(am, .inl (tm, 512, .inl (fun _ => 0))), (ad, .inl (td, 16, .inl (fun _ => 0))), (ab, .inl (tb, 16, .inl (fun _ => 0))), (h0, .inr (8, [.int 0, .ref am, .ref ad, .ref ab, .int 0, .int 0, .ref ar, .int 0, .int 0, .int 2, .int 0, .int 0, .int 0, .ref az, .ref ae, .ref ao, .ref an, .ref au, .int 0, .int 0, .int 0, .ref ap, .ref aw, .int 0, .int 0, .int 0, .int 0, .int 0])), (az, .inl (tz, 3, .inl rdy)), (ae, .inl (te, 3, .inl (fun _ => 0)))] H := hP
                      have hD : va_D A [(am, .inl (tm, 512, .inl (fun _ => 0))), (ad, .inl (td, 16, .inl (fun _ => 0))), (ab, .inl (tb, 16, .inl (fun _ => 0))), (h0, .inr (8, [.int 0, .ref am, .ref ad, .ref ab, .int 0, .int 0, .ref ar, .int 0, .int 0, .int 2, .int 0, .int 0, .int 0, .ref az, .ref ae, .ref ao, .ref an, .ref au, .int 0, .int 0, .int 0, .ref ap, .ref aw, .int 0, .int 0, .int 0, .int 0, .int 0])), (az, .inl (tz, 3, .inl rdy)), (ae, .inl (te, 3, .inl (fun _ => 0)))] := hD
                      have hK : va_K (dC, dI) vwCl [(tm, .int), (td, .int), (tb, .int), (tz, .boolean), (te, .boolean)] s := hK
                      obtain rfl := hw
                      have hP : va_P (dC, dI) vwCl [(am, .inl (tm, 512, .inl (fun _ => 0))), (ad, .inl (td, 16, .inl (fun _ => 0))), (ab, .inl (tb, 16, .inl (fun _ => 0))), (h0, .inr (8, [.int 0, .ref am, .ref ad, .ref ab, .int 0, .int 0, .ref ar, .int 0, .int 0, .int 2, .int 0, .int 0, .int 0, .ref az, .ref ae, .ref ao, .ref an, .ref au, .int 0, .int 0, .int 0, .ref ap, .ref aw, .int 0, .int 0, .int 0, .int 0, .int 0])), (az, .inl (tz, 3, .inl rdy)), (ae, .inl (te, 3, .inl (fun _ => 0)))] H := hP
                      have hD : va_D A [(am, .inl (tm, 512, .inl (fun _ => 0))), (ad, .inl (td, 16, .inl (fun _ => 0))), (ab, .inl (tb, 16, .inl (fun _ => 0))), (h0, .inr (8, [.int 0, .ref am, .ref ad, .ref ab, .int 0, .int 0, .ref ar, .int 0, .int 0, .int 2, .int 0, .int 0, .int 0, .ref az, .ref ae, .ref ao, .ref an, .ref au, .int 0, .int 0, .int 0, .ref ap, .ref aw, .int 0, .int 0, .int 0, .int 0, .int 0])), (az, .inl (tz, 3, .inl rdy)), (ae, .inl (te, 3, .inl (fun _ => 0)))] := hD
                      have hP9 := hP.sub (ws' := [(h0, .inr (8, [.int 0, .ref am, .ref ad, .ref ab, .int 0, .int 0, .ref ar, .int 0, .int 0, .int 2, .int 0, .int 0, .int 0, .ref az, .ref ae, .ref ao, .ref an, .ref au, .int 0, .int 0, .int 0, .ref ap, .ref aw, .int 0, .int 0, .int 0, .int 0, .int 0])), (am, .inl (tm, 512, .inl (fun _ => 0))), (ad, .inl (td, 16, .inl (fun _ => 0))), (ab, .inl (tb, 16, .inl (fun _ => 0))), (az, .inl (tz, 3, .inl rdy)), (ae, .inl (te, 3, .inl (fun _ => 0)))]) [3, 0, 1, 2, 4, 5] rfl
                      have hD9 := hD.sub (ws' := [(h0, .inr (8, [.int 0, .ref am, .ref ad, .ref ab, .int 0, .int 0, .ref ar, .int 0, .int 0, .int 2, .int 0, .int 0, .int 0, .ref az, .ref ae, .ref ao, .ref an, .ref au, .int 0, .int 0, .int 0, .ref ap, .ref aw, .int 0, .int 0, .int 0, .int 0, .int 0])), (am, .inl (tm, 512, .inl (fun _ => 0))), (ad, .inl (td, 16, .inl (fun _ => 0))), (ab, .inl (tb, 16, .inl (fun _ => 0))), (az, .inl (tz, 3, .inl rdy)), (ae, .inl (te, 3, .inl (fun _ => 0)))]) [3, 0, 1, 2, 4, 5] (by decide) rfl
                      have hK9 := hK.sub (tys' := [(tm, .int), (td, .int), (tb, .int), (tz, .boolean), (te, .boolean)]) [0, 1, 2, 3, 4] rfl
                      exact W.iret (v := 128) hx hb hr (fun t ht hW => ⟨⟨128, (), rfl, (by first | (exact dv_pos (by omega)) | (exact dv_zero (by omega) (by omega)) | (exact dv_neg (by omega) (by omega))), by rw [ht]; exact hP9, va_K.moved hW.alike hK9, hD9⟩, hS.F ht⟩) hS.2.2 dX9_at_125
                  · have c9 := fz_eq.mp c9
                    have kk86 : (86 : Int32).toInt = 86 := by decide
                    refine lv_iconst (v := 0) hx hb dX9_at_112 (by decide) ?_
                    have hP9 := hP.sub (ws' := [(h0, .inr (8, [.int 0, .ref am, .ref ad, .ref ab, .int 0, .int 0, .ref ar, .int 0, .int 0, .int 2, .int 0, .int 0, .int 0, .ref az, .ref ae, .ref ao, .ref an, .ref au, .int 0, .int 0, .int 0, .ref ap, .ref aw, .int 0, .int 0, .int 0, .int 0, .int 0])), (am, .inl (tm, 512, .inl (fun _ => 0))), (ad, .inl (td, 16, .inl (fun _ => 0))), (ab, .inl (tb, 16, .inl (fun _ => 0))), (az, .inl (tz, 3, .inl rdy)), (ae, .inl (te, 3, .inl (fun _ => 0)))]) [0, 1, 2, 3, 4, 5] rfl
                    have hD9 := hD.sub (ws' := [(h0, .inr (8, [.int 0, .ref am, .ref ad, .ref ab, .int 0, .int 0, .ref ar, .int 0, .int 0, .int 2, .int 0, .int 0, .int 0, .ref az, .ref ae, .ref ao, .ref an, .ref au, .int 0, .int 0, .int 0, .ref ap, .ref aw, .int 0, .int 0, .int 0, .int 0, .int 0])), (am, .inl (tm, 512, .inl (fun _ => 0))), (ad, .inl (td, 16, .inl (fun _ => 0))), (ab, .inl (tb, 16, .inl (fun _ => 0))), (az, .inl (tz, 3, .inl rdy)), (ae, .inl (te, 3, .inl (fun _ => 0)))]) [0, 1, 2, 3, 4, 5] (by decide) rfl
                    have hK9 := hK.sub (tys' := [(tm, .int), (td, .int), (tb, .int), (tz, .boolean), (te, .boolean)]) [0, 1, 2, 3, 4] rfl
                    exact W.iret (v := 0) hx hb hr (fun t ht hW => ⟨⟨0, (), rfl, (by first | (exact dv_pos (by omega)) | (exact dv_zero (by omega) (by omega)) | (exact dv_neg (by omega) (by omega))), by rw [ht]; exact hP9, va_K.moved hW.alike hK9, hD9⟩, hS.F ht⟩) hS.2.2 dX9_at_113
                · have c8 := fz_eq.mp c8
                  have kk84 : (84 : Int32).toInt = 84 := by decide
                  refine lv_aload_n hx hb dX9_at_100 rfl (lv_at hl 1 rfl) ?_
                  refine lv_iconst (v := 2) hx hb dX9_at_101 (by decide) ?_
                  have hPc := hP.sub (ws' := [(h0, .inr (8, [.int 0, .ref am, .ref ad, .ref ab, .int 0, .int 0, .ref ar, .int 0, .int 0, .int 2, .int 0, .int 0, .int 0, .ref az, .ref ae, .ref ao, .ref an, .ref au, .int 0, .int 0, .int 0, .ref ap, .ref aw, .int 0, .int 0, .int 0, .int 0, .int 0])), (az, .inl (tz, 3, .inl rdy)), (ae, .inl (te, 3, .inl (fun _ => 0)))]) [0, 4, 5] rfl
                  have hDc := hD.sub (ws' := [(h0, .inr (8, [.int 0, .ref am, .ref ad, .ref ab, .int 0, .int 0, .ref ar, .int 0, .int 0, .int 2, .int 0, .int 0, .int 0, .ref az, .ref ae, .ref ao, .ref an, .ref au, .int 0, .int 0, .int 0, .ref ap, .ref aw, .int 0, .int 0, .int 0, .int 0, .int 0])), (az, .inl (tz, 3, .inl rdy)), (ae, .inl (te, 3, .inl (fun _ => 0)))]) [0, 4, 5] (by decide) rfl
                  have hKc := hK.sub (tys' := [(tz, .boolean), (te, .boolean)]) [3, 4] rfl
                  have hFc := va_free (wc := [(h0, .inr (8, [.int 0, .ref am, .ref ad, .ref ab, .int 0, .int 0, .ref ar, .int 0, .int 0, .int 2, .int 0, .int 0, .int 0, .ref az, .ref ae, .ref ao, .ref an, .ref au, .int 0, .int 0, .int 0, .ref ap, .ref aw, .int 0, .int 0, .int 0, .int 0, .int 0])), (az, .inl (tz, 3, .inl rdy)), (ae, .inl (te, 3, .inl (fun _ => 0)))]) hD hS hA [0, 4, 5] rfl
                  refine va_calli (va_runV (As := [.int 2]) (rest := []) ⟨hx, hb, hml, hown, hts⟩ (c_mstatusOf2 l dC dI h0 am ad ab ar az ae ao an au ap aw tz te H.size) (cwV 1 hts gX9_at_X9_statusOf rfl rfl rfl (by decide +kernel) ⟨Nat.le_of_ble_eq_true rfl, Nat.le_of_ble_eq_true rfl⟩) ⟨fun a U g mk q => by obtain ⟨q0, q1, qP, qK, qD⟩ := q; exact ⟨q0, q1, qP, va_K.moved (u := U) (U := U.calling g mk a) (Vm.Alike.refl U.vm) qK, qD⟩, va_recv hKc hPc (ci := 8) (q0 := 0) rfl rfl, fun U hU hW => ⟨rfl, by rw [hU], by rw [hU]; exact hPc, va_K.moved hW.alike hKc, hDc.weaken (fun _ _ _ _ => trivial)⟩⟩ rfl rfl hl.1 rfl (lv_room (Nat.le_of_ble_eq_true rfl)) dX9_at_102 ⟨Nat.le_of_ble_eq_true rfl, Nat.le_of_ble_eq_true rfl⟩) hS (fun q _ h => hFc q h) hFc (fun r17 u18 t H1 locs ht hvm hw hB hz1 hk1 hS => ?_)
                  obtain ⟨hP1, hK1, hD1⟩ := hB
                  rw [ht] at hP1
                  have hK1 := va_K.moved hvm.symm hK1
                  try dsimp only at hw
                  obtain ⟨hP, hD⟩ := va_join (wr := [(am, .inl (tm, 512, .inl (fun _ => 0))), (ad, .inl (td, 16, .inl (fun _ => 0))), (ab, .inl (tb, 16, .inl (fun _ => 0)))]) (w1 := [(h0, .inr (8, [.int 0, .ref am, .ref ad, .ref ab, .int 0, .int 0, .ref ar, .int 0, .int 0, .int 2, .int 0, .int 0, .int 0, .ref az, .ref ae, .ref ao, .ref an, .ref au, .int 0, .int 0, .int 0, .ref ap, .ref aw, .int 0, .int 0, .int 0, .int 0, .int 0])), (az, .inl (tz, 3, .inl rdy)), (ae, .inl (te, 3, .inl (fun _ => 0)))]) hP hD [0, 4, 5] [1, 2, 3] rfl rfl (by decide) (by decide) hk1 hFc hP1 hD1
                  have hK := (hK.sub (tys' := [(tm, .int), (td, .int), (tb, .int)]) [0, 1, 2] rfl).app hK1
                  generalize H1 = H at hP hS ⊢
                  have hP : va_P (dC, dI) vwCl [(am, .inl (tm, 512, .inl (fun _ => 0))), (ad, .inl (td, 16, .inl (fun _ => 0))), (ab, .inl (tb, 16, .inl (fun _ => 0))), (h0, .inr (8, [.int 0, .ref am, .ref ad, .ref ab, .int 0, .int 0, .ref ar, .int 0, .int 0, .int 2, .int 0, .int 0, .int 0, .ref az, .ref ae, .ref ao, .ref an, .ref au, .int 0, .int 0, .int 0, .ref ap, .ref aw, .int 0, .int 0, .int 0, .int 0, .int 0])), (az, .inl (tz, 3, .inl rdy)), (ae, .inl (te, 3, .inl (fun _ => 0)))] H := hP
                  have hD : va_D A [(am, .inl (tm, 512, .inl (fun _ => 0))), (ad, .inl (td, 16, .inl (fun _ => 0))), (ab, .inl (tb, 16, .inl (fun _ => 0))), (h0, .inr (8, [.int 0, .ref am, .ref ad, .ref ab, .int 0, .int 0, .ref ar, .int 0, .int 0, .int 2, .int 0, .int 0, .int 0, .ref az, .ref ae, .ref ao, .ref an, .ref au, .int 0, .int 0, .int 0, .ref ap, .ref aw, .int 0, .int 0, .int 0, .int 0, .int 0])), (az, .inl (tz, 3, .inl rdy)), (ae, .inl (te, 3, .inl (fun _ => 0)))] := hD
                  have hK : va_K (dC, dI) vwCl [(tm, .int), (td, .int), (tb, .int), (tz, .boolean), (te, .boolean)] s := hK
                  obtain rfl := hw
                  have hP : va_P (dC, dI) vwCl [(am, .inl (tm, 512, .inl (fun _ => 0))), (ad, .inl (td, 16, .inl (fun _ => 0))), (ab, .inl (tb, 16, .inl (fun _ => 0))), (h0, .inr (8, [.int 0, .ref am, .ref ad, .ref ab, .int 0, .int 0, .ref ar, .int 0, .int 0, .int 2, .int 0, .int 0, .int 0, .ref az, .ref ae, .ref ao, .ref an, .ref au, .int 0, .int 0, .int 0, .ref ap, .ref aw, .int 0, .int 0, .int 0, .int 0, .int 0])), (az, .inl (tz, 3, .inl rdy)), (ae, .inl (te, 3, .inl (fun _ => 0)))] H := hP
                  have hD : va_D A [(am, .inl (tm, 512, .inl (fun _ => 0))), (ad, .inl (td, 16, .inl (fun _ => 0))), (ab, .inl (tb, 16, .inl (fun _ => 0))), (h0, .inr (8, [.int 0, .ref am, .ref ad, .ref ab, .int 0, .int 0, .ref ar, .int 0, .int 0, .int 2, .int 0, .int 0, .int 0, .ref az, .ref ae, .ref ao, .ref an, .ref au, .int 0, .int 0, .int 0, .ref ap, .ref aw, .int 0, .int 0, .int 0, .int 0, .int 0])), (az, .inl (tz, 3, .inl rdy)), (ae, .inl (te, 3, .inl (fun _ => 0)))] := hD
                  have hP9 := hP.sub (ws' := [(h0, .inr (8, [.int 0, .ref am, .ref ad, .ref ab, .int 0, .int 0, .ref ar, .int 0, .int 0, .int 2, .int 0, .int 0, .int 0, .ref az, .ref ae, .ref ao, .ref an, .ref au, .int 0, .int 0, .int 0, .ref ap, .ref aw, .int 0, .int 0, .int 0, .int 0, .int 0])), (am, .inl (tm, 512, .inl (fun _ => 0))), (ad, .inl (td, 16, .inl (fun _ => 0))), (ab, .inl (tb, 16, .inl (fun _ => 0))), (az, .inl (tz, 3, .inl rdy)), (ae, .inl (te, 3, .inl (fun _ => 0)))]) [3, 0, 1, 2, 4, 5] rfl
                  have hD9 := hD.sub (ws' := [(h0, .inr (8, [.int 0, .ref am, .ref ad, .ref ab, .int 0, .int 0, .ref ar, .int 0, .int 0, .int 2, .int 0, .int 0, .int 0, .ref az, .ref ae, .ref ao, .ref an, .ref au, .int 0, .int 0, .int 0, .ref ap, .ref aw, .int 0, .int 0, .int 0, .int 0, .int 0])), (am, .inl (tm, 512, .inl (fun _ => 0))), (ad, .inl (td, 16, .inl (fun _ => 0))), (ab, .inl (tb, 16, .inl (fun _ => 0))), (az, .inl (tz, 3, .inl rdy)), (ae, .inl (te, 3, .inl (fun _ => 0)))]) [3, 0, 1, 2, 4, 5] (by decide) rfl
                  have hK9 := hK.sub (tys' := [(tm, .int), (td, .int), (tb, .int), (tz, .boolean), (te, .boolean)]) [0, 1, 2, 3, 4] rfl
                  exact W.iret (v := 128) hx hb hr (fun t ht hW => ⟨⟨128, (), rfl, (by first | (exact dv_pos (by omega)) | (exact dv_zero (by omega) (by omega)) | (exact dv_neg (by omega) (by omega))), by rw [ht]; exact hP9, va_K.moved hW.alike hK9, hD9⟩, hS.F ht⟩) hS.2.2 dX9_at_105
              · have c7 := fz_eq.mp c7
                have kk82 : (82 : Int32).toInt = 82 := by decide
                refine lv_aload_n hx hb dX9_at_89 rfl (lv_at hl 1 rfl) ?_
                refine va_get (D := (dC, dI)) (ci := 8) (v := .int 0) (C := RX9) (T := TX9) (N := 28) hx hb hts (by decide +kernel) hown hK hP 0 rfl rfl 18 (by decide) (hts (.fieldLink RX9 72 "UnibusMachineModel" "typed" "I") (by decide +kernel)) (fun _ h9 => h9) rfl dX9_at_90 ?_
                have hP9 := hP.sub (ws' := [(h0, .inr (8, [.int 0, .ref am, .ref ad, .ref ab, .int 0, .int 0, .ref ar, .int 0, .int 0, .int 2, .int 0, .int 0, .int 0, .ref az, .ref ae, .ref ao, .ref an, .ref au, .int 0, .int 0, .int 0, .ref ap, .ref aw, .int 0, .int 0, .int 0, .int 0, .int 0])), (am, .inl (tm, 512, .inl (fun _ => 0))), (ad, .inl (td, 16, .inl (fun _ => 0))), (ab, .inl (tb, 16, .inl (fun _ => 0))), (az, .inl (tz, 3, .inl rdy)), (ae, .inl (te, 3, .inl (fun _ => 0)))]) [0, 1, 2, 3, 4, 5] rfl
                have hD9 := hD.sub (ws' := [(h0, .inr (8, [.int 0, .ref am, .ref ad, .ref ab, .int 0, .int 0, .ref ar, .int 0, .int 0, .int 2, .int 0, .int 0, .int 0, .ref az, .ref ae, .ref ao, .ref an, .ref au, .int 0, .int 0, .int 0, .ref ap, .ref aw, .int 0, .int 0, .int 0, .int 0, .int 0])), (am, .inl (tm, 512, .inl (fun _ => 0))), (ad, .inl (td, 16, .inl (fun _ => 0))), (ab, .inl (tb, 16, .inl (fun _ => 0))), (az, .inl (tz, 3, .inl rdy)), (ae, .inl (te, 3, .inl (fun _ => 0)))]) [0, 1, 2, 3, 4, 5] (by decide) rfl
                have hK9 := hK.sub (tys' := [(tm, .int), (td, .int), (tb, .int), (tz, .boolean), (te, .boolean)]) [0, 1, 2, 3, 4] rfl
                exact W.iret (v := 0) hx hb hr (fun t ht hW => ⟨⟨0, (), rfl, (by first | (exact dv_pos (by omega)) | (exact dv_zero (by omega) (by omega)) | (exact dv_neg (by omega) (by omega))), by rw [ht]; exact hP9, va_K.moved hW.alike hK9, hD9⟩, hS.F ht⟩) hS.2.2 dX9_at_93
            · have c6 := fz_eq.mp c6
              have kk80 : (80 : Int32).toInt = 80 := by decide
              refine lv_aload_n hx hb dX9_at_77 rfl (lv_at hl 1 rfl) ?_
              refine lv_iconst (v := 1) hx hb dX9_at_78 (by decide) ?_
              have hPc := hP.sub (ws' := [(h0, .inr (8, [.int 0, .ref am, .ref ad, .ref ab, .int 0, .int 0, .ref ar, .int 0, .int 0, .int 2, .int 0, .int 0, .int 0, .ref az, .ref ae, .ref ao, .ref an, .ref au, .int 0, .int 0, .int 0, .ref ap, .ref aw, .int 0, .int 0, .int 0, .int 0, .int 0])), (az, .inl (tz, 3, .inl rdy)), (ae, .inl (te, 3, .inl (fun _ => 0)))]) [0, 4, 5] rfl
              have hDc := hD.sub (ws' := [(h0, .inr (8, [.int 0, .ref am, .ref ad, .ref ab, .int 0, .int 0, .ref ar, .int 0, .int 0, .int 2, .int 0, .int 0, .int 0, .ref az, .ref ae, .ref ao, .ref an, .ref au, .int 0, .int 0, .int 0, .ref ap, .ref aw, .int 0, .int 0, .int 0, .int 0, .int 0])), (az, .inl (tz, 3, .inl rdy)), (ae, .inl (te, 3, .inl (fun _ => 0)))]) [0, 4, 5] (by decide) rfl
              have hKc := hK.sub (tys' := [(tz, .boolean), (te, .boolean)]) [3, 4] rfl
              have hFc := va_free (wc := [(h0, .inr (8, [.int 0, .ref am, .ref ad, .ref ab, .int 0, .int 0, .ref ar, .int 0, .int 0, .int 2, .int 0, .int 0, .int 0, .ref az, .ref ae, .ref ao, .ref an, .ref au, .int 0, .int 0, .int 0, .ref ap, .ref aw, .int 0, .int 0, .int 0, .int 0, .int 0])), (az, .inl (tz, 3, .inl rdy)), (ae, .inl (te, 3, .inl (fun _ => 0)))]) hD hS hA [0, 4, 5] rfl
              refine va_calli (va_runV (As := [.int 1]) (rest := []) ⟨hx, hb, hml, hown, hts⟩ (c_mstatusOf1 l dC dI h0 am ad ab ar az ae ao an au ap aw tz te H.size) (cwV 1 hts gX9_at_X9_statusOf rfl rfl rfl (by decide +kernel) ⟨Nat.le_of_ble_eq_true rfl, Nat.le_of_ble_eq_true rfl⟩) ⟨fun a U g mk q => by obtain ⟨q0, q1, qP, qK, qD⟩ := q; exact ⟨q0, q1, qP, va_K.moved (u := U) (U := U.calling g mk a) (Vm.Alike.refl U.vm) qK, qD⟩, va_recv hKc hPc (ci := 8) (q0 := 0) rfl rfl, fun U hU hW => ⟨rfl, by rw [hU], by rw [hU]; exact hPc, va_K.moved hW.alike hKc, hDc.weaken (fun _ _ _ _ => trivial)⟩⟩ rfl rfl hl.1 rfl (lv_room (Nat.le_of_ble_eq_true rfl)) dX9_at_79 ⟨Nat.le_of_ble_eq_true rfl, Nat.le_of_ble_eq_true rfl⟩) hS (fun q _ h => hFc q h) hFc (fun r19 u20 t H1 locs ht hvm hw hB hz1 hk1 hS => ?_)
              obtain ⟨hP1, hK1, hD1⟩ := hB
              rw [ht] at hP1
              have hK1 := va_K.moved hvm.symm hK1
              try dsimp only at hw
              obtain ⟨hP, hD⟩ := va_join (wr := [(am, .inl (tm, 512, .inl (fun _ => 0))), (ad, .inl (td, 16, .inl (fun _ => 0))), (ab, .inl (tb, 16, .inl (fun _ => 0)))]) (w1 := [(h0, .inr (8, [.int 0, .ref am, .ref ad, .ref ab, .int 0, .int 0, .ref ar, .int 0, .int 0, .int 2, .int 0, .int 0, .int 0, .ref az, .ref ae, .ref ao, .ref an, .ref au, .int 0, .int 0, .int 0, .ref ap, .ref aw, .int 0, .int 0, .int 0, .int 0, .int 0])), (az, .inl (tz, 3, .inl rdy)), (ae, .inl (te, 3, .inl (fun _ => 0)))]) hP hD [0, 4, 5] [1, 2, 3] rfl rfl (by decide) (by decide) hk1 hFc hP1 hD1
              have hK := (hK.sub (tys' := [(tm, .int), (td, .int), (tb, .int)]) [0, 1, 2] rfl).app hK1
              generalize H1 = H at hP hS ⊢
              have hP : va_P (dC, dI) vwCl [(am, .inl (tm, 512, .inl (fun _ => 0))), (ad, .inl (td, 16, .inl (fun _ => 0))), (ab, .inl (tb, 16, .inl (fun _ => 0))), (h0, .inr (8, [.int 0, .ref am, .ref ad, .ref ab, .int 0, .int 0, .ref ar, .int 0, .int 0, .int 2, .int 0, .int 0, .int 0, .ref az, .ref ae, .ref ao, .ref an, .ref au, .int 0, .int 0, .int 0, .ref ap, .ref aw, .int 0, .int 0, .int 0, .int 0, .int 0])), (az, .inl (tz, 3, .inl rdy)), (ae, .inl (te, 3, .inl (fun _ => 0)))] H := hP
              have hD : va_D A [(am, .inl (tm, 512, .inl (fun _ => 0))), (ad, .inl (td, 16, .inl (fun _ => 0))), (ab, .inl (tb, 16, .inl (fun _ => 0))), (h0, .inr (8, [.int 0, .ref am, .ref ad, .ref ab, .int 0, .int 0, .ref ar, .int 0, .int 0, .int 2, .int 0, .int 0, .int 0, .ref az, .ref ae, .ref ao, .ref an, .ref au, .int 0, .int 0, .int 0, .ref ap, .ref aw, .int 0, .int 0, .int 0, .int 0, .int 0])), (az, .inl (tz, 3, .inl rdy)), (ae, .inl (te, 3, .inl (fun _ => 0)))] := hD
              have hK : va_K (dC, dI) vwCl [(tm, .int), (td, .int), (tb, .int), (tz, .boolean), (te, .boolean)] s := hK
              obtain rfl := hw
              have hP : va_P (dC, dI) vwCl [(am, .inl (tm, 512, .inl (fun _ => 0))), (ad, .inl (td, 16, .inl (fun _ => 0))), (ab, .inl (tb, 16, .inl (fun _ => 0))), (h0, .inr (8, [.int 0, .ref am, .ref ad, .ref ab, .int 0, .int 0, .ref ar, .int 0, .int 0, .int 2, .int 0, .int 0, .int 0, .ref az, .ref ae, .ref ao, .ref an, .ref au, .int 0, .int 0, .int 0, .ref ap, .ref aw, .int 0, .int 0, .int 0, .int 0, .int 0])), (az, .inl (tz, 3, .inl rdy)), (ae, .inl (te, 3, .inl (fun _ => 0)))] H := hP
              have hD : va_D A [(am, .inl (tm, 512, .inl (fun _ => 0))), (ad, .inl (td, 16, .inl (fun _ => 0))), (ab, .inl (tb, 16, .inl (fun _ => 0))), (h0, .inr (8, [.int 0, .ref am, .ref ad, .ref ab, .int 0, .int 0, .ref ar, .int 0, .int 0, .int 2, .int 0, .int 0, .int 0, .ref az, .ref ae, .ref ao, .ref an, .ref au, .int 0, .int 0, .int 0, .ref ap, .ref aw, .int 0, .int 0, .int 0, .int 0, .int 0])), (az, .inl (tz, 3, .inl rdy)), (ae, .inl (te, 3, .inl (fun _ => 0)))] := hD
              have hP9 := hP.sub (ws' := [(h0, .inr (8, [.int 0, .ref am, .ref ad, .ref ab, .int 0, .int 0, .ref ar, .int 0, .int 0, .int 2, .int 0, .int 0, .int 0, .ref az, .ref ae, .ref ao, .ref an, .ref au, .int 0, .int 0, .int 0, .ref ap, .ref aw, .int 0, .int 0, .int 0, .int 0, .int 0])), (am, .inl (tm, 512, .inl (fun _ => 0))), (ad, .inl (td, 16, .inl (fun _ => 0))), (ab, .inl (tb, 16, .inl (fun _ => 0))), (az, .inl (tz, 3, .inl rdy)), (ae, .inl (te, 3, .inl (fun _ => 0)))]) [3, 0, 1, 2, 4, 5] rfl
              have hD9 := hD.sub (ws' := [(h0, .inr (8, [.int 0, .ref am, .ref ad, .ref ab, .int 0, .int 0, .ref ar, .int 0, .int 0, .int 2, .int 0, .int 0, .int 0, .ref az, .ref ae, .ref ao, .ref an, .ref au, .int 0, .int 0, .int 0, .ref ap, .ref aw, .int 0, .int 0, .int 0, .int 0, .int 0])), (am, .inl (tm, 512, .inl (fun _ => 0))), (ad, .inl (td, 16, .inl (fun _ => 0))), (ab, .inl (tb, 16, .inl (fun _ => 0))), (az, .inl (tz, 3, .inl rdy)), (ae, .inl (te, 3, .inl (fun _ => 0)))]) [3, 0, 1, 2, 4, 5] (by decide) rfl
              have hK9 := hK.sub (tys' := [(tm, .int), (td, .int), (tb, .int), (tz, .boolean), (te, .boolean)]) [0, 1, 2, 3, 4] rfl
              exact W.iret (v := 0) hx hb hr (fun t ht hW => ⟨⟨0, (), rfl, (by first | (exact dv_pos (by omega)) | (exact dv_zero (by omega) (by omega)) | (exact dv_neg (by omega) (by omega))), by rw [ht]; exact hP9, va_K.moved hW.alike hK9, hD9⟩, hS.F ht⟩) hS.2.2 dX9_at_82
          · have c5 := fz_eq.mp c5
            have kk64 : (64 : Int32).toInt = 64 := by decide
            refine lv_aload_n hx hb dX9_at_66 rfl (lv_at hl 1 rfl) ?_
            refine va_get (D := (dC, dI)) (ci := 8) (v := .int 0) (C := RX9) (T := TX9) (N := 28) hx hb hts (by decide +kernel) hown hK hP 0 rfl rfl 4 (by decide) (hts (.fieldLink RX9 65 "UnibusMachineModel" "control" "I") (by decide +kernel)) (fun _ h9 => h9) rfl dX9_at_67 ?_
            have hP9 := hP.sub (ws' := [(h0, .inr (8, [.int 0, .ref am, .ref ad, .ref ab, .int 0, .int 0, .ref ar, .int 0, .int 0, .int 2, .int 0, .int 0, .int 0, .ref az, .ref ae, .ref ao, .ref an, .ref au, .int 0, .int 0, .int 0, .ref ap, .ref aw, .int 0, .int 0, .int 0, .int 0, .int 0])), (am, .inl (tm, 512, .inl (fun _ => 0))), (ad, .inl (td, 16, .inl (fun _ => 0))), (ab, .inl (tb, 16, .inl (fun _ => 0))), (az, .inl (tz, 3, .inl rdy)), (ae, .inl (te, 3, .inl (fun _ => 0)))]) [0, 1, 2, 3, 4, 5] rfl
            have hD9 := hD.sub (ws' := [(h0, .inr (8, [.int 0, .ref am, .ref ad, .ref ab, .int 0, .int 0, .ref ar, .int 0, .int 0, .int 2, .int 0, .int 0, .int 0, .ref az, .ref ae, .ref ao, .ref an, .ref au, .int 0, .int 0, .int 0, .ref ap, .ref aw, .int 0, .int 0, .int 0, .int 0, .int 0])), (am, .inl (tm, 512, .inl (fun _ => 0))), (ad, .inl (td, 16, .inl (fun _ => 0))), (ab, .inl (tb, 16, .inl (fun _ => 0))), (az, .inl (tz, 3, .inl rdy)), (ae, .inl (te, 3, .inl (fun _ => 0)))]) [0, 1, 2, 3, 4, 5] (by decide) rfl
            have hK9 := hK.sub (tys' := [(tm, .int), (td, .int), (tb, .int), (tz, .boolean), (te, .boolean)]) [0, 1, 2, 3, 4] rfl
            exact W.iret (v := 0) hx hb hr (fun t ht hW => ⟨⟨0, (), rfl, (by first | (exact dv_pos (by omega)) | (exact dv_zero (by omega) (by omega)) | (exact dv_neg (by omega) (by omega))), by rw [ht]; exact hP9, va_K.moved hW.alike hK9, hD9⟩, hS.F ht⟩) hS.2.2 dX9_at_70
        · have c4 := fz_nle.mp c4
          have kk64 : (64 : Int32).toInt = 64 := by decide
          refine lv_aload_n hx hb dX9_at_48 rfl (lv_at hl 1 rfl) ?_
          refine va_get (D := (dC, dI)) (ci := 8) (v := .ref ab) (C := RX9) (T := TX9) (N := 28) hx hb hts (by decide +kernel) hown hK hP 0 rfl rfl 3 (by decide) (hts (.fieldLink RX9 16 "UnibusMachineModel" "base" "[I") (by decide +kernel)) (fun _ h9 => h9) rfl dX9_at_49 ?_
          refine lv_iload_n hx hb dX9_at_52 rfl (lv_at hl 0 rfl) ?_
          refine lv_iconst (v := 2) hx hb dX9_at_53 (by decide) ?_
          refine lv_idiv hx hb dX9_at_54 (by decide) ?_
          have f2 := fz_div2 (p0 - 57344) (by omega)
          refine lv_bipush (v := 16) hx hb dX9_at_55 (by decide) ?_
          refine lv_isub hx hb dX9_at_57 ?_
          have kk16 : (16 : Int32).toInt = 16 := by decide
          have f3 := fz_sub ((p0 - 57344) / 2) 16 (by omega) (by omega)
          refine va_iald (D := (dC, dI)) hx hb hK hP 3 2 rfl rfl (vp_in_iff.mpr (by constructor <;> omega)) dX9_at_58 ?_
          have hP9 := hP.sub (ws' := [(h0, .inr (8, [.int 0, .ref am, .ref ad, .ref ab, .int 0, .int 0, .ref ar, .int 0, .int 0, .int 2, .int 0, .int 0, .int 0, .ref az, .ref ae, .ref ao, .ref an, .ref au, .int 0, .int 0, .int 0, .ref ap, .ref aw, .int 0, .int 0, .int 0, .int 0, .int 0])), (am, .inl (tm, 512, .inl (fun _ => 0))), (ad, .inl (td, 16, .inl (fun _ => 0))), (ab, .inl (tb, 16, .inl (fun _ => 0))), (az, .inl (tz, 3, .inl rdy)), (ae, .inl (te, 3, .inl (fun _ => 0)))]) [0, 1, 2, 3, 4, 5] rfl
          have hD9 := hD.sub (ws' := [(h0, .inr (8, [.int 0, .ref am, .ref ad, .ref ab, .int 0, .int 0, .ref ar, .int 0, .int 0, .int 2, .int 0, .int 0, .int 0, .ref az, .ref ae, .ref ao, .ref an, .ref au, .int 0, .int 0, .int 0, .ref ap, .ref aw, .int 0, .int 0, .int 0, .int 0, .int 0])), (am, .inl (tm, 512, .inl (fun _ => 0))), (ad, .inl (td, 16, .inl (fun _ => 0))), (ab, .inl (tb, 16, .inl (fun _ => 0))), (az, .inl (tz, 3, .inl rdy)), (ae, .inl (te, 3, .inl (fun _ => 0)))]) [0, 1, 2, 3, 4, 5] (by decide) rfl
          have hK9 := hK.sub (tys' := [(tm, .int), (td, .int), (tb, .int), (tz, .boolean), (te, .boolean)]) [0, 1, 2, 3, 4] rfl
          exact W.iret (v := 0) hx hb hr (fun t ht hW => ⟨⟨0, (), rfl, (by first | (exact dv_pos (by omega)) | (exact dv_zero (by omega) (by omega)) | (exact dv_neg (by omega) (by omega))), by rw [ht]; exact hP9, va_K.moved hW.alike hK9, hD9⟩, hS.F ht⟩) hS.2.2 dX9_at_59
      · have c3 := fz_nle.mp c3
        have kk32 : (32 : Int32).toInt = 32 := by decide
        refine lv_aload_n hx hb dX9_at_33 rfl (lv_at hl 1 rfl) ?_
        refine va_get (D := (dC, dI)) (ci := 8) (v := .ref ad) (C := RX9) (T := TX9) (N := 28) hx hb hts (by decide +kernel) hown hK hP 0 rfl rfl 2 (by decide) (hts (.fieldLink RX9 13 "UnibusMachineModel" "descriptor" "[I") (by decide +kernel)) (fun _ h9 => h9) rfl dX9_at_34 ?_
        refine lv_iload_n hx hb dX9_at_37 rfl (lv_at hl 0 rfl) ?_
        refine lv_iconst (v := 2) hx hb dX9_at_38 (by decide) ?_
        refine lv_idiv hx hb dX9_at_39 (by decide) ?_
        have f2 := fz_div2 (p0 - 57344) (by omega)
        refine va_iald (D := (dC, dI)) hx hb hK hP 2 1 rfl rfl (vp_in_iff.mpr (by constructor <;> omega)) dX9_at_40 ?_
        have hP9 := hP.sub (ws' := [(h0, .inr (8, [.int 0, .ref am, .ref ad, .ref ab, .int 0, .int 0, .ref ar, .int 0, .int 0, .int 2, .int 0, .int 0, .int 0, .ref az, .ref ae, .ref ao, .ref an, .ref au, .int 0, .int 0, .int 0, .ref ap, .ref aw, .int 0, .int 0, .int 0, .int 0, .int 0])), (am, .inl (tm, 512, .inl (fun _ => 0))), (ad, .inl (td, 16, .inl (fun _ => 0))), (ab, .inl (tb, 16, .inl (fun _ => 0))), (az, .inl (tz, 3, .inl rdy)), (ae, .inl (te, 3, .inl (fun _ => 0)))]) [0, 1, 2, 3, 4, 5] rfl
        have hD9 := hD.sub (ws' := [(h0, .inr (8, [.int 0, .ref am, .ref ad, .ref ab, .int 0, .int 0, .ref ar, .int 0, .int 0, .int 2, .int 0, .int 0, .int 0, .ref az, .ref ae, .ref ao, .ref an, .ref au, .int 0, .int 0, .int 0, .ref ap, .ref aw, .int 0, .int 0, .int 0, .int 0, .int 0])), (am, .inl (tm, 512, .inl (fun _ => 0))), (ad, .inl (td, 16, .inl (fun _ => 0))), (ab, .inl (tb, 16, .inl (fun _ => 0))), (az, .inl (tz, 3, .inl rdy)), (ae, .inl (te, 3, .inl (fun _ => 0)))]) [0, 1, 2, 3, 4, 5] (by decide) rfl
        have hK9 := hK.sub (tys' := [(tm, .int), (td, .int), (tb, .int), (tz, .boolean), (te, .boolean)]) [0, 1, 2, 3, 4] rfl
        exact W.iret (v := 0) hx hb hr (fun t ht hW => ⟨⟨0, (), rfl, (by first | (exact dv_pos (by omega)) | (exact dv_zero (by omega) (by omega)) | (exact dv_neg (by omega) (by omega))), by rw [ht]; exact hP9, va_K.moved hW.alike hK9, hD9⟩, hS.F ht⟩) hS.2.2 dX9_at_41
    · have c2 := fz_nle.mp c2
      have kk0 : (0 : Int32).toInt = 0 := by decide
      exact False.elim (by omega)
  · have c1 := fz_nle.mp c1
    have kk1024 : (1024 : Int32).toInt = 1024 := by decide
    exact False.elim (by omega)
set_option maxHeartbeats 4000000 in
set_option maxRecDepth 100000 in
theorem c_mdevice (l : Launch) (dC : Nat → ClassId) (dI : Nat → Nat → Nat) (h0 : Nat) (am : Nat) (ad : Nat) (ab : Nat) (ar : Nat) (az : Nat) (ae : Nat) (ao : Nat) (an : Nat) (au : Nat) (ap : Nat) (aw : Nat) (tm : ClassId) (td : ClassId) (tb : ClassId) (tz : ClassId) (te : ClassId) (p0 : Int32) (sz : Nat) : Met l yX9_device wsX9_device ({ frames := 3, cells := 0, slots := 0, locals := 64 } : Room) (va_Pc [.ref h0, .int p0] (fun U => U.heap.size = sz ∧ va_P (dC, dI) vwCl [(h0, .inr (8, [.int 0, .ref am, .ref ad, .ref ab, .int 0, .int 0, .ref ar, .int 0, .int 0, .int 2, .int 0, .int 0, .int 0, .ref az, .ref ae, .ref ao, .ref an, .ref au, .int 0, .int 0, .int 0, .ref ap, .ref aw, .int 0, .int 0, .int 0, .int 0, .int 0])), (am, .inl (tm, 512, .inl (fun _ => 0))), (ad, .inl (td, 16, .inl (fun _ => 0))), (ab, .inl (tb, 16, .inl (fun _ => 0))), (az, .inl (tz, 3, .inl rdy)), (ae, .inl (te, 3, .inl (fun _ => 0)))] U.heap ∧ va_K (dC, dI) vwCl [(tm, .int), (td, .int), (tb, .int), (tz, .boolean), (te, .boolean)] U ∧ va_D (fun _ => True) [(h0, .inr (8, [.int 0, .ref am, .ref ad, .ref ab, .int 0, .int 0, .ref ar, .int 0, .int 0, .int 2, .int 0, .int 0, .int 0, .ref az, .ref ae, .ref ao, .ref an, .ref au, .int 0, .int 0, .int 0, .ref ap, .ref aw, .int 0, .int 0, .int 0, .int 0, .int 0])), (am, .inl (tm, 512, .inl (fun _ => 0))), (ad, .inl (td, 16, .inl (fun _ => 0))), (ab, .inl (tb, 16, .inl (fun _ => 0))), (az, .inl (tz, 3, .inl rdy)), (ae, .inl (te, 3, .inl (fun _ => 0)))])) (va_Qi (fun (r : Int32) (u : Int32) => r = dv p0.toInt ∧ (u = 0)) (fun (u : Int32) (t : State) => ∃ (fs : List Value), va_P (dC, dI) vwCl [(h0, .inr (8, .int u :: fs))] t.heap ∧ va_K (dC, dI) vwCl [] t ∧ va_D (va_A [(h0, .inr (8, [.int 0, .ref am, .ref ad, .ref ab, .int 0, .int 0, .ref ar, .int 0, .int 0, .int 2, .int 0, .int 0, .int 0, .ref az, .ref ae, .ref ao, .ref an, .ref au, .int 0, .int 0, .int 0, .ref ap, .ref aw, .int 0, .int 0, .int 0, .int 0, .int 0])), (am, .inl (tm, 512, .inl (fun _ => 0))), (ad, .inl (td, 16, .inl (fun _ => 0))), (ab, .inl (tb, 16, .inl (fun _ => 0))), (az, .inl (tz, 3, .inl rdy)), (ae, .inl (te, 3, .inl (fun _ => 0)))] sz) [(h0, .inr (8, .int u :: fs))]) (va_A [(h0, .inr (8, [.int 0, .ref am, .ref ad, .ref ab, .int 0, .int 0, .ref ar, .int 0, .int 0, .int 2, .int 0, .int 0, .int 0, .ref az, .ref ae, .ref ao, .ref an, .ref au, .int 0, .int 0, .int 0, .ref ap, .ref aw, .int 0, .int 0, .int 0, .int 0, .int 0])), (am, .inl (tm, 512, .inl (fun _ => 0))), (ad, .inl (td, 16, .inl (fun _ => 0))), (ab, .inl (tb, 16, .inl (fun _ => 0))), (az, .inl (tz, 3, .inl rdy)), (ae, .inl (te, 3, .inl (fun _ => 0)))] sz)) 0 0 (va_A [(h0, .inr (8, [.int 0, .ref am, .ref ad, .ref ab, .int 0, .int 0, .ref ar, .int 0, .int 0, .int 2, .int 0, .int 0, .int 0, .ref az, .ref ae, .ref ao, .ref an, .ref au, .int 0, .int 0, .int 0, .ref ap, .ref aw, .int 0, .int 0, .int 0, .int 0, .int 0])), (am, .inl (tm, 512, .inl (fun _ => 0))), (ad, .inl (td, 16, .inl (fun _ => 0))), (ab, .inl (tb, 16, .inl (fun _ => 0))), (az, .inl (tz, 3, .inl rdy)), (ae, .inl (te, 3, .inl (fun _ => 0)))] sz) := by
  refine Met.ofW (cc := cX9_device) (maxL := 2) (ret := (some .int)) (by decide) rfl ?_
  intro p e s m args below meth c s₁ B hml hv
  obtain ⟨rfl, hsz, hP, hK, hD0⟩ := hv
  have hx := B.exec
  have hb := B.bytes
  have hr := B.returns
  have hts := atoms_spec (ws := wsX9_device) B.pre
  have hown : s.vm.findClass RX9 = some m.cls := findClass_of_methodNamed B.named
  have hlocks := B.notSynchronized
  subst hsz
  have hD := hD0.self (sz := s.heap.size)
  generalize hAe : va_A [(h0, .inr (8, [.int 0, .ref am, .ref ad, .ref ab, .int 0, .int 0, .ref ar, .int 0, .int 0, .int 2, .int 0, .int 0, .int 0, .ref az, .ref ae, .ref ao, .ref an, .ref au, .int 0, .int 0, .int 0, .ref ap, .ref aw, .int 0, .int 0, .int 0, .int 0, .int 0])), (am, .inl (tm, 512, .inl (fun _ => 0))), (ad, .inl (td, 16, .inl (fun _ => 0))), (ab, .inl (tb, 16, .inl (fun _ => 0))), (az, .inl (tz, 3, .inl rdy)), (ae, .inl (te, 3, .inl (fun _ => 0)))] s.heap.size = A at hD ⊢
  have hA : ∀ q : Nat, s.heap.size ≤ q → A q := fun q h => by rw [← hAe]; exact Or.inr h
  have hS0 : ∀ G : Heap, s.heap = G → va_S A s.heap G [] := fun G h => by subst h; exact va_S.rf
  generalize hHe : s.heap = H at hP ⊢
  have hS := hS0 H hHe
  have hP : va_P (dC, dI) vwCl [(h0, .inr (8, [.int 0, .ref am, .ref ad, .ref ab, .int 0, .int 0, .ref ar, .int 0, .int 0, .int 2, .int 0, .int 0, .int 0, .ref az, .ref ae, .ref ao, .ref an, .ref au, .int 0, .int 0, .int 0, .ref ap, .ref aw, .int 0, .int 0, .int 0, .int 0, .int 0])), (am, .inl (tm, 512, .inl (fun _ => 0))), (ad, .inl (td, 16, .inl (fun _ => 0))), (ab, .inl (tb, 16, .inl (fun _ => 0))), (az, .inl (tz, 3, .inl rdy)), (ae, .inl (te, 3, .inl (fun _ => 0)))] H := hP
  have hD : va_D A [(h0, .inr (8, [.int 0, .ref am, .ref ad, .ref ab, .int 0, .int 0, .ref ar, .int 0, .int 0, .int 2, .int 0, .int 0, .int 0, .ref az, .ref ae, .ref ao, .ref an, .ref au, .int 0, .int 0, .int 0, .ref ap, .ref aw, .int 0, .int 0, .int 0, .int 0, .int 0])), (am, .inl (tm, 512, .inl (fun _ => 0))), (ad, .inl (td, 16, .inl (fun _ => 0))), (ab, .inl (tb, 16, .inl (fun _ => 0))), (az, .inl (tz, 3, .inl rdy)), (ae, .inl (te, 3, .inl (fun _ => 0)))] := hD
  have hK : va_K (dC, dI) vwCl [(tm, .int), (td, .int), (tb, .int), (tz, .boolean), (te, .boolean)] s := hK
  have hl := lv_entry ([.ref h0, .int p0]) (n := 2) (Nat.le_of_ble_eq_true rfl)
  rw [lg_entry_eq]
  generalize (lg_sl ([.ref h0, .int p0]) ++ List.replicate (2 - (lg_sl ([.ref h0, .int p0])).length) Slot.unset).toArray = ls at hl ⊢
  have hl : lv_has ls 2 [(0, .ref h0), (1, .int p0)] := hl
  have kk57344 : (57344 : Int32).toInt = 57344 := by decide
  have kk65535 : (65535 : Int32).toInt = 65535 := by decide
  have kk1 : (1 : Int32).toInt = 1 := by decide
  refine lv_aload_n hx hb dX9_device_0 rfl (lv_at hl 0 rfl) ?_
  refine lv_iconst (v := 0) hx hb dX9_device_1 (by decide) ?_
  refine va_put (D := (dC, dI)) (ci := 8) (v := .int 0) (ty := .int) (C := RX9) (T := TX9) (N := 28) hx hb hts (by decide +kernel) tyX9 tyX9_ok nmX9 hown hK hP hD hS 0 rfl rfl 0 (by decide) (hts (.fieldLink RX9 48 "UnibusMachineModel" "thrown" "I") (by decide +kernel)) (fun _ h9 => h9) rfl (by decide +kernel) rfl rfl (Nat.le_of_ble_eq_true rfl) dX9_device_2 (fun H locs hP hD hS => ?_)
  have hP : va_P (dC, dI) vwCl [(h0, .inr (8, [.int 0, .ref am, .ref ad, .ref ab, .int 0, .int 0, .ref ar, .int 0, .int 0, .int 2, .int 0, .int 0, .int 0, .ref az, .ref ae, .ref ao, .ref an, .ref au, .int 0, .int 0, .int 0, .ref ap, .ref aw, .int 0, .int 0, .int 0, .int 0, .int 0])), (am, .inl (tm, 512, .inl (fun _ => 0))), (ad, .inl (td, 16, .inl (fun _ => 0))), (ab, .inl (tb, 16, .inl (fun _ => 0))), (az, .inl (tz, 3, .inl rdy)), (ae, .inl (te, 3, .inl (fun _ => 0)))] H := hP
  have hD : va_D A [(h0, .inr (8, [.int 0, .ref am, .ref ad, .ref ab, .int 0, .int 0, .ref ar, .int 0, .int 0, .int 2, .int 0, .int 0, .int 0, .ref az, .ref ae, .ref ao, .ref an, .ref au, .int 0, .int 0, .int 0, .ref ap, .ref aw, .int 0, .int 0, .int 0, .int 0, .int 0])), (am, .inl (tm, 512, .inl (fun _ => 0))), (ad, .inl (td, 16, .inl (fun _ => 0))), (ab, .inl (tb, 16, .inl (fun _ => 0))), (az, .inl (tz, 3, .inl rdy)), (ae, .inl (te, 3, .inl (fun _ => 0)))] := hD
  refine lv_iload_n hx hb dX9_device_5 rfl (lv_at hl 1 rfl) ?_
  refine lv_ldc (v := 57344) hx hb hown (hts (.constant RX9 64 (57344)) (by decide +kernel)) dX9_device_6 ?_
  refine lv_icmp_lt (tgt := 24) hx hb dX9_device_8 (by decide) (fun c1 => ?_) (fun c1 => ?_)
  · have c1 := fz_lt.mp c1
    have kk57344 : (57344 : Int32).toInt = 57344 := by decide
    refine lv_iconst (v := (-1)) hx hb dX9_device_24 (by decide) ?_
    refine lv_goto (tgt := 33) hx hb dX9_device_25 (by decide) ?_
    have hP9 := hP.sub (ws' := [(h0, .inr (8, [.int 0, .ref am, .ref ad, .ref ab, .int 0, .int 0, .ref ar, .int 0, .int 0, .int 2, .int 0, .int 0, .int 0, .ref az, .ref ae, .ref ao, .ref an, .ref au, .int 0, .int 0, .int 0, .ref ap, .ref aw, .int 0, .int 0, .int 0, .int 0, .int 0]))]) [0] rfl
    have hD9 := hD.sub (ws' := [(h0, .inr (8, [.int 0, .ref am, .ref ad, .ref ab, .int 0, .int 0, .ref ar, .int 0, .int 0, .int 2, .int 0, .int 0, .int 0, .ref az, .ref ae, .ref ao, .ref an, .ref au, .int 0, .int 0, .int 0, .ref ap, .ref aw, .int 0, .int 0, .int 0, .int 0, .int 0]))]) [0] (by decide) rfl
    have hK9 := hK.sub (tys' := []) [] rfl
    exact W.iret (v := (-1)) hx hb hr (fun t ht hW => ⟨⟨(-1), 0, rfl, ⟨(by first | (exact dv_pos (by omega)) | (exact dv_zero (by omega) (by omega)) | (exact dv_neg (by omega) (by omega))), rfl⟩, [.ref am, .ref ad, .ref ab, .int 0, .int 0, .ref ar, .int 0, .int 0, .int 2, .int 0, .int 0, .int 0, .ref az, .ref ae, .ref ao, .ref an, .ref au, .int 0, .int 0, .int 0, .ref ap, .ref aw, .int 0, .int 0, .int 0, .int 0, .int 0], by rw [ht]; exact hP9, va_K.moved hW.alike hK9, hD9⟩, hS.F ht⟩) hS.2.2 dX9_device_33
  · have c1 := fz_nlt.mp c1
    have kk57344 : (57344 : Int32).toInt = 57344 := by decide
    refine lv_iload_n hx hb dX9_device_11 rfl (lv_at hl 1 rfl) ?_
    refine lv_ldc (v := 65535) hx hb hown (hts (.constant RX9 122 (65535)) (by decide +kernel)) dX9_device_12 ?_
    refine lv_icmp_gt (tgt := 24) hx hb dX9_device_14 (by decide) (fun c2 => ?_) (fun c2 => ?_)
    · have c2 := fz_lt.mp c2
      have kk65535 : (65535 : Int32).toInt = 65535 := by decide
      refine lv_iconst (v := (-1)) hx hb dX9_device_24 (by decide) ?_
      refine lv_goto (tgt := 33) hx hb dX9_device_25 (by decide) ?_
      have hP9 := hP.sub (ws' := [(h0, .inr (8, [.int 0, .ref am, .ref ad, .ref ab, .int 0, .int 0, .ref ar, .int 0, .int 0, .int 2, .int 0, .int 0, .int 0, .ref az, .ref ae, .ref ao, .ref an, .ref au, .int 0, .int 0, .int 0, .ref ap, .ref aw, .int 0, .int 0, .int 0, .int 0, .int 0]))]) [0] rfl
      have hD9 := hD.sub (ws' := [(h0, .inr (8, [.int 0, .ref am, .ref ad, .ref ab, .int 0, .int 0, .ref ar, .int 0, .int 0, .int 2, .int 0, .int 0, .int 0, .ref az, .ref ae, .ref ao, .ref an, .ref au, .int 0, .int 0, .int 0, .ref ap, .ref aw, .int 0, .int 0, .int 0, .int 0, .int 0]))]) [0] (by decide) rfl
      have hK9 := hK.sub (tys' := []) [] rfl
      exact W.iret (v := (-1)) hx hb hr (fun t ht hW => ⟨⟨(-1), 0, rfl, ⟨(by first | (exact dv_pos (by omega)) | (exact dv_zero (by omega) (by omega)) | (exact dv_neg (by omega) (by omega))), rfl⟩, [.ref am, .ref ad, .ref ab, .int 0, .int 0, .ref ar, .int 0, .int 0, .int 2, .int 0, .int 0, .int 0, .ref az, .ref ae, .ref ao, .ref an, .ref au, .int 0, .int 0, .int 0, .ref ap, .ref aw, .int 0, .int 0, .int 0, .int 0, .int 0], by rw [ht]; exact hP9, va_K.moved hW.alike hK9, hD9⟩, hS.F ht⟩) hS.2.2 dX9_device_33
    · have c2 := fz_nlt.mp c2
      have kk65535 : (65535 : Int32).toInt = 65535 := by decide
      refine lv_iload_n hx hb dX9_device_17 rfl (lv_at hl 1 rfl) ?_
      refine lv_iconst (v := 2) hx hb dX9_device_18 (by decide) ?_
      refine lv_irem hx hb dX9_device_19 (by decide) ?_
      have f1 := fz_rem2 p0 (by omega)
      refine lv_iconst (v := 1) hx hb dX9_device_20 (by decide) ?_
      refine lv_icmp_ne (tgt := 28) hx hb dX9_device_21 (by decide) (fun c3 => ?_) (fun c3 => ?_)
      · have c3 := fz_ne.mp c3
        have kk1 : (1 : Int32).toInt = 1 := by decide
        refine lv_aload_n hx hb dX9_device_28 rfl (lv_at hl 0 rfl) ?_
        refine lv_iload_n hx hb dX9_device_29 rfl (lv_at hl 1 rfl) ?_
        have hPc := hP.sub (ws' := [(h0, .inr (8, [.int 0, .ref am, .ref ad, .ref ab, .int 0, .int 0, .ref ar, .int 0, .int 0, .int 2, .int 0, .int 0, .int 0, .ref az, .ref ae, .ref ao, .ref an, .ref au, .int 0, .int 0, .int 0, .ref ap, .ref aw, .int 0, .int 0, .int 0, .int 0, .int 0])), (am, .inl (tm, 512, .inl (fun _ => 0))), (ad, .inl (td, 16, .inl (fun _ => 0))), (ab, .inl (tb, 16, .inl (fun _ => 0))), (az, .inl (tz, 3, .inl rdy)), (ae, .inl (te, 3, .inl (fun _ => 0)))]) [0, 1, 2, 3, 4, 5] rfl
        have hDc := hD.sub (ws' := [(h0, .inr (8, [.int 0, .ref am, .ref ad, .ref ab, .int 0, .int 0, .ref ar, .int 0, .int 0, .int 2, .int 0, .int 0, .int 0, .ref az, .ref ae, .ref ao, .ref an, .ref au, .int 0, .int 0, .int 0, .ref ap, .ref aw, .int 0, .int 0, .int 0, .int 0, .int 0])), (am, .inl (tm, 512, .inl (fun _ => 0))), (ad, .inl (td, 16, .inl (fun _ => 0))), (ab, .inl (tb, 16, .inl (fun _ => 0))), (az, .inl (tz, 3, .inl rdy)), (ae, .inl (te, 3, .inl (fun _ => 0)))]) [0, 1, 2, 3, 4, 5] (by decide) rfl
        have hKc := hK.sub (tys' := [(tm, .int), (td, .int), (tb, .int), (tz, .boolean), (te, .boolean)]) [0, 1, 2, 3, 4] rfl
        have hFc := va_free (wc := [(h0, .inr (8, [.int 0, .ref am, .ref ad, .ref ab, .int 0, .int 0, .ref ar, .int 0, .int 0, .int 2, .int 0, .int 0, .int 0, .ref az, .ref ae, .ref ao, .ref an, .ref au, .int 0, .int 0, .int 0, .ref ap, .ref aw, .int 0, .int 0, .int 0, .int 0, .int 0])), (am, .inl (tm, 512, .inl (fun _ => 0))), (ad, .inl (td, 16, .inl (fun _ => 0))), (ab, .inl (tb, 16, .inl (fun _ => 0))), (az, .inl (tz, 3, .inl rdy)), (ae, .inl (te, 3, .inl (fun _ => 0)))]) hD hS hA [0, 1, 2, 3, 4, 5] rfl
        refine va_calli (va_runV (As := [.int p0]) (rest := []) ⟨hx, hb, hml, hown, hts⟩ (c_mat l dC dI h0 am ad ab ar az ae ao an au ap aw tm td tb tz te p0 H.size (by omega) (by omega) (by omega)) (cwV 1 hts gX9_device_X9_at rfl rfl rfl (by decide +kernel) ⟨Nat.le_of_ble_eq_true rfl, Nat.le_of_ble_eq_true rfl⟩) ⟨fun a U g mk q => by obtain ⟨q0, q1, qP, qK, qD⟩ := q; exact ⟨q0, q1, qP, va_K.moved (u := U) (U := U.calling g mk a) (Vm.Alike.refl U.vm) qK, qD⟩, va_recv hKc hPc (ci := 8) (q0 := 0) rfl rfl, fun U hU hW => ⟨rfl, by rw [hU], by rw [hU]; exact hPc, va_K.moved hW.alike hKc, hDc.weaken (fun _ _ _ _ => trivial)⟩⟩ rfl rfl hl.1 rfl (lv_room (Nat.le_of_ble_eq_true rfl)) dX9_device_30 ⟨Nat.le_of_ble_eq_true rfl, Nat.le_of_ble_eq_true rfl⟩) hS (fun q _ h => hFc q h) hFc (fun r4 u5 t H1 locs ht hvm hw hB hz1 hk1 hS => ?_)
        obtain ⟨hP1, hK1, hD1⟩ := hB
        rw [ht] at hP1
        have hK1 := va_K.moved hvm.symm hK1
        try dsimp only at hw
        obtain ⟨hP, hD⟩ := va_join (wr := []) (w1 := [(h0, .inr (8, [.int 0, .ref am, .ref ad, .ref ab, .int 0, .int 0, .ref ar, .int 0, .int 0, .int 2, .int 0, .int 0, .int 0, .ref az, .ref ae, .ref ao, .ref an, .ref au, .int 0, .int 0, .int 0, .ref ap, .ref aw, .int 0, .int 0, .int 0, .int 0, .int 0])), (am, .inl (tm, 512, .inl (fun _ => 0))), (ad, .inl (td, 16, .inl (fun _ => 0))), (ab, .inl (tb, 16, .inl (fun _ => 0))), (az, .inl (tz, 3, .inl rdy)), (ae, .inl (te, 3, .inl (fun _ => 0)))]) hP hD [0, 1, 2, 3, 4, 5] [] rfl rfl (by decide) (by decide) hk1 hFc hP1 hD1
        have hK := (hK.sub (tys' := []) [] rfl).app hK1
        generalize H1 = H at hP hS ⊢
        have hP : va_P (dC, dI) vwCl [(h0, .inr (8, [.int 0, .ref am, .ref ad, .ref ab, .int 0, .int 0, .ref ar, .int 0, .int 0, .int 2, .int 0, .int 0, .int 0, .ref az, .ref ae, .ref ao, .ref an, .ref au, .int 0, .int 0, .int 0, .ref ap, .ref aw, .int 0, .int 0, .int 0, .int 0, .int 0])), (am, .inl (tm, 512, .inl (fun _ => 0))), (ad, .inl (td, 16, .inl (fun _ => 0))), (ab, .inl (tb, 16, .inl (fun _ => 0))), (az, .inl (tz, 3, .inl rdy)), (ae, .inl (te, 3, .inl (fun _ => 0)))] H := hP
        have hD : va_D A [(h0, .inr (8, [.int 0, .ref am, .ref ad, .ref ab, .int 0, .int 0, .ref ar, .int 0, .int 0, .int 2, .int 0, .int 0, .int 0, .ref az, .ref ae, .ref ao, .ref an, .ref au, .int 0, .int 0, .int 0, .ref ap, .ref aw, .int 0, .int 0, .int 0, .int 0, .int 0])), (am, .inl (tm, 512, .inl (fun _ => 0))), (ad, .inl (td, 16, .inl (fun _ => 0))), (ab, .inl (tb, 16, .inl (fun _ => 0))), (az, .inl (tz, 3, .inl rdy)), (ae, .inl (te, 3, .inl (fun _ => 0)))] := hD
        have hK : va_K (dC, dI) vwCl [(tm, .int), (td, .int), (tb, .int), (tz, .boolean), (te, .boolean)] s := hK
        have hP : va_P (dC, dI) vwCl [(h0, .inr (8, [.int 0, .ref am, .ref ad, .ref ab, .int 0, .int 0, .ref ar, .int 0, .int 0, .int 2, .int 0, .int 0, .int 0, .ref az, .ref ae, .ref ao, .ref an, .ref au, .int 0, .int 0, .int 0, .ref ap, .ref aw, .int 0, .int 0, .int 0, .int 0, .int 0])), (am, .inl (tm, 512, .inl (fun _ => 0))), (ad, .inl (td, 16, .inl (fun _ => 0))), (ab, .inl (tb, 16, .inl (fun _ => 0))), (az, .inl (tz, 3, .inl rdy)), (ae, .inl (te, 3, .inl (fun _ => 0)))] H := hP
        have hD : va_D A [(h0, .inr (8, [.int 0, .ref am, .ref ad, .ref ab, .int 0, .int 0, .ref ar, .int 0, .int 0, .int 2, .int 0, .int 0, .int 0, .ref az, .ref ae, .ref ao, .ref an, .ref au, .int 0, .int 0, .int 0, .ref ap, .ref aw, .int 0, .int 0, .int 0, .int 0, .int 0])), (am, .inl (tm, 512, .inl (fun _ => 0))), (ad, .inl (td, 16, .inl (fun _ => 0))), (ab, .inl (tb, 16, .inl (fun _ => 0))), (az, .inl (tz, 3, .inl rdy)), (ae, .inl (te, 3, .inl (fun _ => 0)))] := hD
        have hP9 := hP.sub (ws' := [(h0, .inr (8, [.int 0, .ref am, .ref ad, .ref ab, .int 0, .int 0, .ref ar, .int 0, .int 0, .int 2, .int 0, .int 0, .int 0, .ref az, .ref ae, .ref ao, .ref an, .ref au, .int 0, .int 0, .int 0, .ref ap, .ref aw, .int 0, .int 0, .int 0, .int 0, .int 0]))]) [0] rfl
        have hD9 := hD.sub (ws' := [(h0, .inr (8, [.int 0, .ref am, .ref ad, .ref ab, .int 0, .int 0, .ref ar, .int 0, .int 0, .int 2, .int 0, .int 0, .int 0, .ref az, .ref ae, .ref ao, .ref an, .ref au, .int 0, .int 0, .int 0, .ref ap, .ref aw, .int 0, .int 0, .int 0, .int 0, .int 0]))]) [0] (by decide) rfl
        have hK9 := hK.sub (tys' := []) [] rfl
        exact W.iret (v := r4) hx hb hr (fun t ht hW => ⟨⟨r4, 0, rfl, ⟨hw, rfl⟩, [.ref am, .ref ad, .ref ab, .int 0, .int 0, .ref ar, .int 0, .int 0, .int 2, .int 0, .int 0, .int 0, .ref az, .ref ae, .ref ao, .ref an, .ref au, .int 0, .int 0, .int 0, .ref ap, .ref aw, .int 0, .int 0, .int 0, .int 0, .int 0], by rw [ht]; exact hP9, va_K.moved hW.alike hK9, hD9⟩, hS.F ht⟩) hS.2.2 dX9_device_33
      · have c3 := fz_eq.mp c3
        have kk1 : (1 : Int32).toInt = 1 := by decide
        refine lv_iconst (v := (-1)) hx hb dX9_device_24 (by decide) ?_
        refine lv_goto (tgt := 33) hx hb dX9_device_25 (by decide) ?_
        have hP9 := hP.sub (ws' := [(h0, .inr (8, [.int 0, .ref am, .ref ad, .ref ab, .int 0, .int 0, .ref ar, .int 0, .int 0, .int 2, .int 0, .int 0, .int 0, .ref az, .ref ae, .ref ao, .ref an, .ref au, .int 0, .int 0, .int 0, .ref ap, .ref aw, .int 0, .int 0, .int 0, .int 0, .int 0]))]) [0] rfl
        have hD9 := hD.sub (ws' := [(h0, .inr (8, [.int 0, .ref am, .ref ad, .ref ab, .int 0, .int 0, .ref ar, .int 0, .int 0, .int 2, .int 0, .int 0, .int 0, .ref az, .ref ae, .ref ao, .ref an, .ref au, .int 0, .int 0, .int 0, .ref ap, .ref aw, .int 0, .int 0, .int 0, .int 0, .int 0]))]) [0] (by decide) rfl
        have hK9 := hK.sub (tys' := []) [] rfl
        exact W.iret (v := (-1)) hx hb hr (fun t ht hW => ⟨⟨(-1), 0, rfl, ⟨(by first | (exact dv_pos (by omega)) | (exact dv_zero (by omega) (by omega)) | (exact dv_neg (by omega) (by omega))), rfl⟩, [.ref am, .ref ad, .ref ab, .int 0, .int 0, .ref ar, .int 0, .int 0, .int 2, .int 0, .int 0, .int 0, .ref az, .ref ae, .ref ao, .ref an, .ref au, .int 0, .int 0, .int 0, .ref ap, .ref aw, .int 0, .int 0, .int 0, .int 0, .int 0], by rw [ht]; exact hP9, va_K.moved hW.alike hK9, hD9⟩, hS.F ht⟩) hS.2.2 dX9_device_33
set_option maxHeartbeats 4000000 in
set_option maxRecDepth 100000 in
theorem c_mstate (l : Launch) (dC : Nat → ClassId) (dI : Nat → Nat → Nat) (h0 : Nat) (am : Nat) (ad : Nat) (ab : Nat) (ar : Nat) (az : Nat) (ae : Nat) (ao : Nat) (an : Nat) (au : Nat) (ap : Nat) (aw : Nat) (sz : Nat) : Met l yX9_state wsX9_state ({ frames := 0, cells := 0, slots := 0, locals := 0 } : Room) (va_Pc [.ref h0] (fun U => U.heap.size = sz ∧ va_P (dC, dI) vwCl [(h0, .inr (8, [.int 0, .ref am, .ref ad, .ref ab, .int 0, .int 0, .ref ar, .int 0, .int 0, .int 2, .int 0, .int 0, .int 0, .ref az, .ref ae, .ref ao, .ref an, .ref au, .int 0, .int 0, .int 0, .ref ap, .ref aw, .int 0, .int 0, .int 0, .int 0, .int 0]))] U.heap ∧ va_K (dC, dI) vwCl [] U ∧ va_D (fun _ => True) [(h0, .inr (8, [.int 0, .ref am, .ref ad, .ref ab, .int 0, .int 0, .ref ar, .int 0, .int 0, .int 2, .int 0, .int 0, .int 0, .ref az, .ref ae, .ref ao, .ref an, .ref au, .int 0, .int 0, .int 0, .ref ap, .ref aw, .int 0, .int 0, .int 0, .int 0, .int 0]))])) (va_Qi (fun (r : Int32) (u : Int32) => r = 2 ∧ (u = 0)) (fun (u : Int32) (t : State) => ∃ (fs : List Value), va_P (dC, dI) vwCl [(h0, .inr (8, .int u :: fs))] t.heap ∧ va_K (dC, dI) vwCl [] t ∧ va_D (va_A [(h0, .inr (8, [.int 0, .ref am, .ref ad, .ref ab, .int 0, .int 0, .ref ar, .int 0, .int 0, .int 2, .int 0, .int 0, .int 0, .ref az, .ref ae, .ref ao, .ref an, .ref au, .int 0, .int 0, .int 0, .ref ap, .ref aw, .int 0, .int 0, .int 0, .int 0, .int 0]))] sz) [(h0, .inr (8, .int u :: fs))]) (va_A [(h0, .inr (8, [.int 0, .ref am, .ref ad, .ref ab, .int 0, .int 0, .ref ar, .int 0, .int 0, .int 2, .int 0, .int 0, .int 0, .ref az, .ref ae, .ref ao, .ref an, .ref au, .int 0, .int 0, .int 0, .ref ap, .ref aw, .int 0, .int 0, .int 0, .int 0, .int 0]))] sz)) 0 0 (va_A [(h0, .inr (8, [.int 0, .ref am, .ref ad, .ref ab, .int 0, .int 0, .ref ar, .int 0, .int 0, .int 2, .int 0, .int 0, .int 0, .ref az, .ref ae, .ref ao, .ref an, .ref au, .int 0, .int 0, .int 0, .ref ap, .ref aw, .int 0, .int 0, .int 0, .int 0, .int 0]))] sz) := by
  refine Met.ofW (cc := cX9_state) (maxL := 1) (ret := (some .int)) (by decide) rfl ?_
  intro p e s m args below meth c s₁ B hml hv
  obtain ⟨rfl, hsz, hP, hK, hD0⟩ := hv
  have hx := B.exec
  have hb := B.bytes
  have hr := B.returns
  have hts := atoms_spec (ws := wsX9_state) B.pre
  have hown : s.vm.findClass RX9 = some m.cls := findClass_of_methodNamed B.named
  have hlocks := B.notSynchronized
  subst hsz
  have hD := hD0.self (sz := s.heap.size)
  generalize hAe : va_A [(h0, .inr (8, [.int 0, .ref am, .ref ad, .ref ab, .int 0, .int 0, .ref ar, .int 0, .int 0, .int 2, .int 0, .int 0, .int 0, .ref az, .ref ae, .ref ao, .ref an, .ref au, .int 0, .int 0, .int 0, .ref ap, .ref aw, .int 0, .int 0, .int 0, .int 0, .int 0]))] s.heap.size = A at hD ⊢
  have hA : ∀ q : Nat, s.heap.size ≤ q → A q := fun q h => by rw [← hAe]; exact Or.inr h
  have hS0 : ∀ G : Heap, s.heap = G → va_S A s.heap G [] := fun G h => by subst h; exact va_S.rf
  generalize hHe : s.heap = H at hP ⊢
  have hS := hS0 H hHe
  have hP : va_P (dC, dI) vwCl [(h0, .inr (8, [.int 0, .ref am, .ref ad, .ref ab, .int 0, .int 0, .ref ar, .int 0, .int 0, .int 2, .int 0, .int 0, .int 0, .ref az, .ref ae, .ref ao, .ref an, .ref au, .int 0, .int 0, .int 0, .ref ap, .ref aw, .int 0, .int 0, .int 0, .int 0, .int 0]))] H := hP
  have hD : va_D A [(h0, .inr (8, [.int 0, .ref am, .ref ad, .ref ab, .int 0, .int 0, .ref ar, .int 0, .int 0, .int 2, .int 0, .int 0, .int 0, .ref az, .ref ae, .ref ao, .ref an, .ref au, .int 0, .int 0, .int 0, .ref ap, .ref aw, .int 0, .int 0, .int 0, .int 0, .int 0]))] := hD
  have hK : va_K (dC, dI) vwCl [] s := hK
  have hl := lv_entry ([.ref h0]) (n := 1) (Nat.le_of_ble_eq_true rfl)
  rw [lg_entry_eq]
  generalize (lg_sl ([.ref h0]) ++ List.replicate (1 - (lg_sl ([.ref h0])).length) Slot.unset).toArray = ls at hl ⊢
  have hl : lv_has ls 1 [(0, .ref h0)] := hl
  refine lv_aload_n hx hb dX9_state_0 rfl (lv_at hl 0 rfl) ?_
  refine lv_iconst (v := 0) hx hb dX9_state_1 (by decide) ?_
  refine va_put (D := (dC, dI)) (ci := 8) (v := .int 0) (ty := .int) (C := RX9) (T := TX9) (N := 28) hx hb hts (by decide +kernel) tyX9 tyX9_ok nmX9 hown hK hP hD hS 0 rfl rfl 0 (by decide) (hts (.fieldLink RX9 48 "UnibusMachineModel" "thrown" "I") (by decide +kernel)) (fun _ h9 => h9) rfl (by decide +kernel) rfl rfl (Nat.le_of_ble_eq_true rfl) dX9_state_2 (fun H locs hP hD hS => ?_)
  have hP : va_P (dC, dI) vwCl [(h0, .inr (8, [.int 0, .ref am, .ref ad, .ref ab, .int 0, .int 0, .ref ar, .int 0, .int 0, .int 2, .int 0, .int 0, .int 0, .ref az, .ref ae, .ref ao, .ref an, .ref au, .int 0, .int 0, .int 0, .ref ap, .ref aw, .int 0, .int 0, .int 0, .int 0, .int 0]))] H := hP
  have hD : va_D A [(h0, .inr (8, [.int 0, .ref am, .ref ad, .ref ab, .int 0, .int 0, .ref ar, .int 0, .int 0, .int 2, .int 0, .int 0, .int 0, .ref az, .ref ae, .ref ao, .ref an, .ref au, .int 0, .int 0, .int 0, .ref ap, .ref aw, .int 0, .int 0, .int 0, .int 0, .int 0]))] := hD
  refine lv_aload_n hx hb dX9_state_5 rfl (lv_at hl 0 rfl) ?_
  refine va_get (D := (dC, dI)) (ci := 8) (v := .int 2) (C := RX9) (T := TX9) (N := 28) hx hb hts (by decide +kernel) hown hK hP 0 rfl rfl 9 (by decide) (hts (.fieldLink RX9 22 "UnibusMachineModel" "state" "I") (by decide +kernel)) (fun _ h9 => h9) rfl dX9_state_6 ?_
  have hP9 := hP.sub (ws' := [(h0, .inr (8, [.int 0, .ref am, .ref ad, .ref ab, .int 0, .int 0, .ref ar, .int 0, .int 0, .int 2, .int 0, .int 0, .int 0, .ref az, .ref ae, .ref ao, .ref an, .ref au, .int 0, .int 0, .int 0, .ref ap, .ref aw, .int 0, .int 0, .int 0, .int 0, .int 0]))]) [0] rfl
  have hD9 := hD.sub (ws' := [(h0, .inr (8, [.int 0, .ref am, .ref ad, .ref ab, .int 0, .int 0, .ref ar, .int 0, .int 0, .int 2, .int 0, .int 0, .int 0, .ref az, .ref ae, .ref ao, .ref an, .ref au, .int 0, .int 0, .int 0, .ref ap, .ref aw, .int 0, .int 0, .int 0, .int 0, .int 0]))]) [0] (by decide) rfl
  have hK9 := hK.sub (tys' := []) [] rfl
  exact W.iret (v := 2) hx hb hr (fun t ht hW => ⟨⟨2, 0, rfl, ⟨rfl, rfl⟩, [.ref am, .ref ad, .ref ab, .int 0, .int 0, .ref ar, .int 0, .int 0, .int 2, .int 0, .int 0, .int 0, .ref az, .ref ae, .ref ao, .ref an, .ref au, .int 0, .int 0, .int 0, .ref ap, .ref aw, .int 0, .int 0, .int 0, .int 0, .int 0], by rw [ht]; exact hP9, va_K.moved hW.alike hK9, hD9⟩, hS.F ht⟩) hS.2.2 dX9_state_9
