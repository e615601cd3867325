set_option maxHeartbeats 4000000 in
set_option maxRecDepth 100000 in
theorem c_isWord (l : Launch) (dC : Nat → ClassId) (dI : Nat → Nat → Nat) (p0 : Int32) (sz : Nat) : Met l yX8_isWord wsX8_isWord ({ frames := 0, cells := 0, slots := 0, locals := 0 } : Room) (va_Pc [.int p0] (fun U => U.heap.size = sz ∧ va_P (dC, dI) vwCl [] U.heap ∧ va_K (dC, dI) vwCl [] U ∧ va_D (fun _ => True) [])) (va_Qi (fun (r : Int32) (u : Unit) => (r = 1 ∧ 0 ≤ p0.toInt ∧ p0.toInt ≤ 65535) ∨ (r = 0 ∧ (p0.toInt < 0 ∨ 65535 < p0.toInt))) (fun (u : Unit) (t : State) => va_P (dC, dI) vwCl [] t.heap ∧ va_K (dC, dI) vwCl [] t ∧ va_D (va_A [] sz) []) (va_A [] sz)) 0 0 (va_A [] sz) := by
  refine Met.ofW (cc := cX8_isWord) (maxL := 1) (ret := (some .boolean)) (by decide) rfl ?_
  intro p e s m args below meth c s₁ B hml hv
  obtain ⟨rfl, hsz, hP, hK, hD0⟩ := hv
  have hx := B.exec
  have hb := B.bytes
  have hr := B.returns
  have hts := atoms_spec (ws := wsX8_isWord) B.pre
  have hown : s.vm.findClass RX8 = some m.cls := findClass_of_methodNamed B.named
  have hlocks := B.notSynchronized
  subst hsz
  have hD := hD0.self (sz := s.heap.size)
  generalize hAe : va_A [] s.heap.size = A at hD ⊢
  have hA : ∀ q : Nat, s.heap.size ≤ q → A q := fun q h => by rw [← hAe]; exact Or.inr h
  have hS0 : ∀ G : Heap, s.heap = G → va_S A s.heap G [] := fun G h => by subst h; exact va_S.rf
  generalize hHe : s.heap = H at hP ⊢
  have hS := hS0 H hHe
  have hP : va_P (dC, dI) vwCl [] H := hP
  have hD : va_D A [] := hD
  have hK : va_K (dC, dI) vwCl [] s := hK
  have hl := lv_entry ([.int p0]) (n := 1) (Nat.le_of_ble_eq_true rfl)
  rw [lg_entry_eq]
  generalize (lg_sl ([.int p0]) ++ List.replicate (1 - (lg_sl ([.int p0])).length) Slot.unset).toArray = ls at hl ⊢
  have hl : lv_has ls 1 [(0, .int p0)] := hl
  have kk0 : (0 : Int32).toInt = 0 := by decide
  have kk65535 : (65535 : Int32).toInt = 65535 := by decide
  refine lv_iload_n hx hb dX8_isWord_0 rfl (lv_at hl 0 rfl) ?_
  refine lv_if_lt (tgt := 14) hx hb dX8_isWord_1 (by decide) (fun c1 => ?_) (fun c1 => ?_)
  · have c1 := fz_lt.mp c1
    have kk0 : (0 : Int32).toInt = 0 := by decide
    refine lv_iconst (v := 0) hx hb dX8_isWord_14 (by decide) ?_
    have hP9 := hP.sub (ws' := []) [] rfl
    have hD9 := hD.sub (ws' := []) [] (by decide) rfl
    have hK9 := hK.sub (tys' := []) [] rfl
    exact W.zret (v := 0) hx hb hr (by decide) (fun t ht hW => ⟨⟨0, (), rfl, (by first | (exact Or.inl ⟨rfl, by omega, by omega⟩) | (exact Or.inl ⟨rfl, by omega⟩) | (exact Or.inr ⟨rfl, by omega⟩) | (exact Or.inr ⟨rfl, by omega, by omega⟩)), by rw [ht]; exact hP9, va_K.moved hW.alike hK9, hD9⟩, hS.F ht⟩) hS.2.2 dX8_isWord_15
  · have c1 := fz_nlt.mp c1
    have kk0 : (0 : Int32).toInt = 0 := by decide
    refine lv_iload_n hx hb dX8_isWord_4 rfl (lv_at hl 0 rfl) ?_
    refine lv_ldc (v := 65535) hx hb hown (hts (.constant RX8 124 (65535)) (by decide +kernel)) dX8_isWord_5 ?_
    refine lv_icmp_gt (tgt := 14) hx hb dX8_isWord_7 (by decide) (fun c2 => ?_) (fun c2 => ?_)
    · have c2 := fz_lt.mp c2
      have kk65535 : (65535 : Int32).toInt = 65535 := by decide
      refine lv_iconst (v := 0) hx hb dX8_isWord_14 (by decide) ?_
      have hP9 := hP.sub (ws' := []) [] rfl
      have hD9 := hD.sub (ws' := []) [] (by decide) rfl
      have hK9 := hK.sub (tys' := []) [] rfl
      exact W.zret (v := 0) hx hb hr (by decide) (fun t ht hW => ⟨⟨0, (), rfl, (by first | (exact Or.inl ⟨rfl, by omega, by omega⟩) | (exact Or.inl ⟨rfl, by omega⟩) | (exact Or.inr ⟨rfl, by omega⟩) | (exact Or.inr ⟨rfl, by omega, by omega⟩)), by rw [ht]; exact hP9, va_K.moved hW.alike hK9, hD9⟩, hS.F ht⟩) hS.2.2 dX8_isWord_15
    · have c2 := fz_nlt.mp c2
      have kk65535 : (65535 : Int32).toInt = 65535 := by decide
      refine lv_iconst (v := 1) hx hb dX8_isWord_10 (by decide) ?_
      refine lv_goto (tgt := 15) hx hb dX8_isWord_11 (by decide) ?_
      have hP9 := hP.sub (ws' := []) [] rfl
      have hD9 := hD.sub (ws' := []) [] (by decide) rfl
      have hK9 := hK.sub (tys' := []) [] rfl
      exact W.zret (v := 1) hx hb hr (by decide) (fun t ht hW => ⟨⟨1, (), rfl, (by first | (exact Or.inl ⟨rfl, by omega, by omega⟩) | (exact Or.inl ⟨rfl, by omega⟩) | (exact Or.inr ⟨rfl, by omega⟩) | (exact Or.inr ⟨rfl, by omega, by omega⟩)), by rw [ht]; exact hP9, va_K.moved hW.alike hK9, hD9⟩, hS.F ht⟩) hS.2.2 dX8_isWord_15
set_option maxHeartbeats 4000000 in
set_option maxRecDepth 100000 in
theorem c_isMemory (l : Launch) (dC : Nat → ClassId) (dI : Nat → Nat → Nat) (p0 : Int32) (sz : Nat) : Met l yX8_isMemory wsX8_isMemory ({ frames := 0, cells := 0, slots := 0, locals := 0 } : Room) (va_Pc [.int p0] (fun U => U.heap.size = sz ∧ va_P (dC, dI) vwCl [] U.heap ∧ va_K (dC, dI) vwCl [] U ∧ va_D (fun _ => True) [])) (va_Qi (fun (r : Int32) (u : Unit) => (r = 1 ∧ (0 ≤ p0.toInt ∧ p0.toInt < 1024 ∧ p0.toInt % 2 = 0)) ∨ (r = 0 ∧ (p0.toInt < 0 ∨ 1024 ≤ p0.toInt ∨ p0.toInt % 2 = 1))) (fun (u : Unit) (t : State) => va_P (dC, dI) vwCl [] t.heap ∧ va_K (dC, dI) vwCl [] t ∧ va_D (va_A [] sz) []) (va_A [] sz)) 0 0 (va_A [] sz) := by
  refine Met.ofW (cc := cX8_isMemory) (maxL := 1) (ret := (some .boolean)) (by decide) rfl ?_
  intro p e s m args below meth c s₁ B hml hv
  obtain ⟨rfl, hsz, hP, hK, hD0⟩ := hv
  have hx := B.exec
  have hb := B.bytes
  have hr := B.returns
  have hts := atoms_spec (ws := wsX8_isMemory) B.pre
  have hown : s.vm.findClass RX8 = some m.cls := findClass_of_methodNamed B.named
  have hlocks := B.notSynchronized
  subst hsz
  have hD := hD0.self (sz := s.heap.size)
  generalize hAe : va_A [] s.heap.size = A at hD ⊢
  have hA : ∀ q : Nat, s.heap.size ≤ q → A q := fun q h => by rw [← hAe]; exact Or.inr h
  have hS0 : ∀ G : Heap, s.heap = G → va_S A s.heap G [] := fun G h => by subst h; exact va_S.rf
  generalize hHe : s.heap = H at hP ⊢
  have hS := hS0 H hHe
  have hP : va_P (dC, dI) vwCl [] H := hP
  have hD : va_D A [] := hD
  have hK : va_K (dC, dI) vwCl [] s := hK
  have hl := lv_entry ([.int p0]) (n := 1) (Nat.le_of_ble_eq_true rfl)
  rw [lg_entry_eq]
  generalize (lg_sl ([.int p0]) ++ List.replicate (1 - (lg_sl ([.int p0])).length) Slot.unset).toArray = ls at hl ⊢
  have hl : lv_has ls 1 [(0, .int p0)] := hl
  have kk0 : (0 : Int32).toInt = 0 := by decide
  have kk1024 : (1024 : Int32).toInt = 1024 := by decide
  refine lv_iload_n hx hb dX8_isMemory_0 rfl (lv_at hl 0 rfl) ?_
  refine lv_if_lt (tgt := 21) hx hb dX8_isMemory_1 (by decide) (fun c1 => ?_) (fun c1 => ?_)
  · have c1 := fz_lt.mp c1
    have kk0 : (0 : Int32).toInt = 0 := by decide
    refine lv_iconst (v := 0) hx hb dX8_isMemory_21 (by decide) ?_
    have hP9 := hP.sub (ws' := []) [] rfl
    have hD9 := hD.sub (ws' := []) [] (by decide) rfl
    have hK9 := hK.sub (tys' := []) [] rfl
    exact W.zret (v := 0) hx hb hr (by decide) (fun t ht hW => ⟨⟨0, (), rfl, (by first | (exact Or.inl ⟨rfl, by omega, by omega⟩) | (exact Or.inl ⟨rfl, by omega⟩) | (exact Or.inr ⟨rfl, by omega⟩) | (exact Or.inr ⟨rfl, by omega, by omega⟩)), by rw [ht]; exact hP9, va_K.moved hW.alike hK9, hD9⟩, hS.F ht⟩) hS.2.2 dX8_isMemory_22
  · have c1 := fz_nlt.mp c1
    have kk0 : (0 : Int32).toInt = 0 := by decide
    refine lv_iload_n hx hb dX8_isMemory_4 rfl (lv_at hl 0 rfl) ?_
    refine lv_sipush (v := 1024) hx hb dX8_isMemory_5 (by decide) ?_
    refine lv_icmp_ge (tgt := 21) hx hb dX8_isMemory_8 (by decide) (fun c2 => ?_) (fun c2 => ?_)
    · have c2 := fz_le.mp c2
      have kk1024 : (1024 : Int32).toInt = 1024 := by decide
      refine lv_iconst (v := 0) hx hb dX8_isMemory_21 (by decide) ?_
      have hP9 := hP.sub (ws' := []) [] rfl
      have hD9 := hD.sub (ws' := []) [] (by decide) rfl
      have hK9 := hK.sub (tys' := []) [] rfl
      exact W.zret (v := 0) hx hb hr (by decide) (fun t ht hW => ⟨⟨0, (), rfl, (by first | (exact Or.inl ⟨rfl, by omega, by omega⟩) | (exact Or.inl ⟨rfl, by omega⟩) | (exact Or.inr ⟨rfl, by omega⟩) | (exact Or.inr ⟨rfl, by omega, by omega⟩)), by rw [ht]; exact hP9, va_K.moved hW.alike hK9, hD9⟩, hS.F ht⟩) hS.2.2 dX8_isMemory_22
    · have c2 := fz_nle.mp c2
      have kk1024 : (1024 : Int32).toInt = 1024 := by decide
      refine lv_iload_n hx hb dX8_isMemory_11 rfl (lv_at hl 0 rfl) ?_
      refine lv_iconst (v := 1) hx hb dX8_isMemory_12 (by decide) ?_
      refine lv_iand hx hb dX8_isMemory_13 ?_
      have f1 := fz_and1 p0
      refine lv_if_ne (tgt := 21) hx hb dX8_isMemory_14 (by decide) (fun c3 => ?_) (fun c3 => ?_)
      · have c3 := fz_ne.mp c3
        have kk0 : (0 : Int32).toInt = 0 := by decide
        refine lv_iconst (v := 0) hx hb dX8_isMemory_21 (by decide) ?_
        have hP9 := hP.sub (ws' := []) [] rfl
        have hD9 := hD.sub (ws' := []) [] (by decide) rfl
        have hK9 := hK.sub (tys' := []) [] rfl
        exact W.zret (v := 0) hx hb hr (by decide) (fun t ht hW => ⟨⟨0, (), rfl, (by first | (exact Or.inl ⟨rfl, by omega, by omega⟩) | (exact Or.inl ⟨rfl, by omega⟩) | (exact Or.inr ⟨rfl, by omega⟩) | (exact Or.inr ⟨rfl, by omega, by omega⟩)), by rw [ht]; exact hP9, va_K.moved hW.alike hK9, hD9⟩, hS.F ht⟩) hS.2.2 dX8_isMemory_22
      · have c3 := fz_eq.mp c3
        have kk0 : (0 : Int32).toInt = 0 := by decide
        refine lv_iconst (v := 1) hx hb dX8_isMemory_17 (by decide) ?_
        refine lv_goto (tgt := 22) hx hb dX8_isMemory_18 (by decide) ?_
        have hP9 := hP.sub (ws' := []) [] rfl
        have hD9 := hD.sub (ws' := []) [] (by decide) rfl
        have hK9 := hK.sub (tys' := []) [] rfl
        exact W.zret (v := 1) hx hb hr (by decide) (fun t ht hW => ⟨⟨1, (), rfl, (by first | (exact Or.inl ⟨rfl, by omega, by omega⟩) | (exact Or.inl ⟨rfl, by omega⟩) | (exact Or.inr ⟨rfl, by omega⟩) | (exact Or.inr ⟨rfl, by omega, by omega⟩)), by rw [ht]; exact hP9, va_K.moved hW.alike hK9, hD9⟩, hS.F ht⟩) hS.2.2 dX8_isMemory_22
set_option maxHeartbeats 4000000 in
set_option maxRecDepth 100000 in
theorem c_isDiskWord (l : Launch) (dC : Nat → ClassId) (dI : Nat → Nat → Nat) (p0 : Int32) (p1 : Int32) (sz : Nat) : Met l yX8_isDiskWord wsX8_isDiskWord ({ frames := 0, cells := 0, slots := 0, locals := 0 } : Room) (va_Pc [.int p0, .int p1] (fun U => U.heap.size = sz ∧ va_P (dC, dI) vwCl [] U.heap ∧ va_K (dC, dI) vwCl [] U ∧ va_D (fun _ => True) [])) (va_Qi (fun (r : Int32) (u : Unit) => (r = 1 ∧ (0 ≤ p0.toInt ∧ p0.toInt < 8 ∧ 0 ≤ p1.toInt ∧ p1.toInt < 16)) ∨ (r = 0 ∧ (p0.toInt < 0 ∨ 8 ≤ p0.toInt ∨ p1.toInt < 0 ∨ 16 ≤ p1.toInt))) (fun (u : Unit) (t : State) => va_P (dC, dI) vwCl [] t.heap ∧ va_K (dC, dI) vwCl [] t ∧ va_D (va_A [] sz) []) (va_A [] sz)) 0 0 (va_A [] sz) := by
  refine Met.ofW (cc := cX8_isDiskWord) (maxL := 2) (ret := (some .boolean)) (by decide) rfl ?_
  intro p e s m args below meth c s₁ B hml hv
  obtain ⟨rfl, hsz, hP, hK, hD0⟩ := hv
  have hx := B.exec
  have hb := B.bytes
  have hr := B.returns
  have hts := atoms_spec (ws := wsX8_isDiskWord) B.pre
  have hown : s.vm.findClass RX8 = some m.cls := findClass_of_methodNamed B.named
  have hlocks := B.notSynchronized
  subst hsz
  have hD := hD0.self (sz := s.heap.size)
  generalize hAe : va_A [] s.heap.size = A at hD ⊢
  have hA : ∀ q : Nat, s.heap.size ≤ q → A q := fun q h => by rw [← hAe]; exact Or.inr h
  have hS0 : ∀ G : Heap, s.heap = G → va_S A s.heap G [] := fun G h => by subst h; exact va_S.rf
  generalize hHe : s.heap = H at hP ⊢
  have hS := hS0 H hHe
  have hP : va_P (dC, dI) vwCl [] H := hP
  have hD : va_D A [] := hD
  have hK : va_K (dC, dI) vwCl [] s := hK
  have hl := lv_entry ([.int p0, .int p1]) (n := 2) (Nat.le_of_ble_eq_true rfl)
  rw [lg_entry_eq]
  generalize (lg_sl ([.int p0, .int p1]) ++ List.replicate (2 - (lg_sl ([.int p0, .int p1])).length) Slot.unset).toArray = ls at hl ⊢
  have hl : lv_has ls 2 [(0, .int p0), (1, .int p1)] := hl
  have kk0 : (0 : Int32).toInt = 0 := by decide
  have kk8 : (8 : Int32).toInt = 8 := by decide
  have kk16 : (16 : Int32).toInt = 16 := by decide
  refine lv_iload_n hx hb dX8_isDiskWord_0 rfl (lv_at hl 0 rfl) ?_
  refine lv_if_lt (tgt := 24) hx hb dX8_isDiskWord_1 (by decide) (fun c1 => ?_) (fun c1 => ?_)
  · have c1 := fz_lt.mp c1
    have kk0 : (0 : Int32).toInt = 0 := by decide
    refine lv_iconst (v := 0) hx hb dX8_isDiskWord_24 (by decide) ?_
    have hP9 := hP.sub (ws' := []) [] rfl
    have hD9 := hD.sub (ws' := []) [] (by decide) rfl
    have hK9 := hK.sub (tys' := []) [] rfl
    exact W.zret (v := 0) hx hb hr (by decide) (fun t ht hW => ⟨⟨0, (), rfl, (by first | (exact Or.inl ⟨rfl, by omega, by omega⟩) | (exact Or.inl ⟨rfl, by omega⟩) | (exact Or.inr ⟨rfl, by omega⟩) | (exact Or.inr ⟨rfl, by omega, by omega⟩)), by rw [ht]; exact hP9, va_K.moved hW.alike hK9, hD9⟩, hS.F ht⟩) hS.2.2 dX8_isDiskWord_25
  · have c1 := fz_nlt.mp c1
    have kk0 : (0 : Int32).toInt = 0 := by decide
    refine lv_iload_n hx hb dX8_isDiskWord_4 rfl (lv_at hl 0 rfl) ?_
    refine lv_bipush (v := 8) hx hb dX8_isDiskWord_5 (by decide) ?_
    refine lv_icmp_ge (tgt := 24) hx hb dX8_isDiskWord_7 (by decide) (fun c2 => ?_) (fun c2 => ?_)
    · have c2 := fz_le.mp c2
      have kk8 : (8 : Int32).toInt = 8 := by decide
      refine lv_iconst (v := 0) hx hb dX8_isDiskWord_24 (by decide) ?_
      have hP9 := hP.sub (ws' := []) [] rfl
      have hD9 := hD.sub (ws' := []) [] (by decide) rfl
      have hK9 := hK.sub (tys' := []) [] rfl
      exact W.zret (v := 0) hx hb hr (by decide) (fun t ht hW => ⟨⟨0, (), rfl, (by first | (exact Or.inl ⟨rfl, by omega, by omega⟩) | (exact Or.inl ⟨rfl, by omega⟩) | (exact Or.inr ⟨rfl, by omega⟩) | (exact Or.inr ⟨rfl, by omega, by omega⟩)), by rw [ht]; exact hP9, va_K.moved hW.alike hK9, hD9⟩, hS.F ht⟩) hS.2.2 dX8_isDiskWord_25
    · have c2 := fz_nle.mp c2
      have kk8 : (8 : Int32).toInt = 8 := by decide
      refine lv_iload_n hx hb dX8_isDiskWord_10 rfl (lv_at hl 1 rfl) ?_
      refine lv_if_lt (tgt := 24) hx hb dX8_isDiskWord_11 (by decide) (fun c3 => ?_) (fun c3 => ?_)
      · have c3 := fz_lt.mp c3
        have kk0 : (0 : Int32).toInt = 0 := by decide
        refine lv_iconst (v := 0) hx hb dX8_isDiskWord_24 (by decide) ?_
        have hP9 := hP.sub (ws' := []) [] rfl
        have hD9 := hD.sub (ws' := []) [] (by decide) rfl
        have hK9 := hK.sub (tys' := []) [] rfl
        exact W.zret (v := 0) hx hb hr (by decide) (fun t ht hW => ⟨⟨0, (), rfl, (by first | (exact Or.inl ⟨rfl, by omega, by omega⟩) | (exact Or.inl ⟨rfl, by omega⟩) | (exact Or.inr ⟨rfl, by omega⟩) | (exact Or.inr ⟨rfl, by omega, by omega⟩)), by rw [ht]; exact hP9, va_K.moved hW.alike hK9, hD9⟩, hS.F ht⟩) hS.2.2 dX8_isDiskWord_25
      · have c3 := fz_nlt.mp c3
        have kk0 : (0 : Int32).toInt = 0 := by decide
        refine lv_iload_n hx hb dX8_isDiskWord_14 rfl (lv_at hl 1 rfl) ?_
        refine lv_bipush (v := 16) hx hb dX8_isDiskWord_15 (by decide) ?_
        refine lv_icmp_ge (tgt := 24) hx hb dX8_isDiskWord_17 (by decide) (fun c4 => ?_) (fun c4 => ?_)
        · have c4 := fz_le.mp c4
          have kk16 : (16 : Int32).toInt = 16 := by decide
          refine lv_iconst (v := 0) hx hb dX8_isDiskWord_24 (by decide) ?_
          have hP9 := hP.sub (ws' := []) [] rfl
          have hD9 := hD.sub (ws' := []) [] (by decide) rfl
          have hK9 := hK.sub (tys' := []) [] rfl
          exact W.zret (v := 0) hx hb hr (by decide) (fun t ht hW => ⟨⟨0, (), rfl, (by first | (exact Or.inl ⟨rfl, by omega, by omega⟩) | (exact Or.inl ⟨rfl, by omega⟩) | (exact Or.inr ⟨rfl, by omega⟩) | (exact Or.inr ⟨rfl, by omega, by omega⟩)), by rw [ht]; exact hP9, va_K.moved hW.alike hK9, hD9⟩, hS.F ht⟩) hS.2.2 dX8_isDiskWord_25
        · have c4 := fz_nle.mp c4
          have kk16 : (16 : Int32).toInt = 16 := by decide
          refine lv_iconst (v := 1) hx hb dX8_isDiskWord_20 (by decide) ?_
          refine lv_goto (tgt := 25) hx hb dX8_isDiskWord_21 (by decide) ?_
          have hP9 := hP.sub (ws' := []) [] rfl
          have hD9 := hD.sub (ws' := []) [] (by decide) rfl
          have hK9 := hK.sub (tys' := []) [] rfl
          exact W.zret (v := 1) hx hb hr (by decide) (fun t ht hW => ⟨⟨1, (), rfl, (by first | (exact Or.inl ⟨rfl, by omega, by omega⟩) | (exact Or.inl ⟨rfl, by omega⟩) | (exact Or.inr ⟨rfl, by omega⟩) | (exact Or.inr ⟨rfl, by omega, by omega⟩)), by rw [ht]; exact hP9, va_K.moved hW.alike hK9, hD9⟩, hS.F ht⟩) hS.2.2 dX8_isDiskWord_25
set_option maxHeartbeats 4000000 in
set_option maxRecDepth 100000 in
theorem c_deposit (l : Launch) (dC : Nat → ClassId) (dI : Nat → Nat → Nat) (h0 : Nat) (oB : Nat) (oP : Nat) (am : Nat) (oM : Nat) (oS : Nat) (oK : Nat) (oL : Nat) (oD : Nat) (tm : ClassId) (f : Nat → Int32) (p0 : Int32) (p1 : Int32) (sz : Nat) (hlt : l.stackTraces = false) : vx_Met l yX8_deposit wsX8_deposit ({ frames := 6, cells := 1, slots := 6, locals := 81 } : Room) (va_Pc [.ref h0, .int p0, .int p1] (fun U => U.heap.size = sz ∧ va_P (dC, dI) vwCl [(h0, .inr (7, [.ref oB, .ref oP])), (oB, .inr (0, [.ref am, .ref oM, .ref oS, .ref oK, .ref oL, .ref oD])), (am, .inl (tm, 512, .inl f))] U.heap ∧ va_K (dC, dI) vwCl [(tm, .int)] U ∧ va_D (fun _ => True) [(h0, .inr (7, [.ref oB, .ref oP])), (oB, .inr (0, [.ref am, .ref oM, .ref oS, .ref oK, .ref oL, .ref oD])), (am, .inl (tm, 512, .inl f))] ∧ vx_Zq Bundle.tN "UNASSIGNED_STACK" Bundle.steD (va_A [(h0, .inr (7, [.ref oB, .ref oP])), (oB, .inr (0, [.ref am, .ref oM, .ref oS, .ref oK, .ref oL, .ref oD])), (am, .inl (tm, 512, .inl f))] sz) U U.heap ∧ vx_Zq Bundle.tN "SUPPRESSED_SENTINEL" Bundle.listD (va_A [(h0, .inr (7, [.ref oB, .ref oP])), (oB, .inr (0, [.ref am, .ref oM, .ref oS, .ref oK, .ref oL, .ref oD])), (am, .inl (tm, 512, .inl f))] sz) U U.heap ∧ va_Nw (.declares (Bundle.init0 "java/lang/RuntimeException")) U ∧ va_Nw (.declares (Bundle.init0 "java/lang/Exception")) U ∧ va_Nw (.declares (Bundle.init0 Bundle.tN)) U ∧ va_Nw (.castable "java/lang/IllegalArgumentException" "java/lang/IllegalArgumentException") U)) (va_Qv (fun (u : Unit) => (0 ≤ p0.toInt ∧ p0.toInt < 1024 ∧ p0.toInt % 2 = 0) ∧ (0 ≤ p1.toInt ∧ p1.toInt ≤ 65535)) (fun (u : Unit) (t : State) => va_P (dC, dI) vwCl [] t.heap ∧ va_K (dC, dI) vwCl [] t ∧ va_D (va_A [(h0, .inr (7, [.ref oB, .ref oP])), (oB, .inr (0, [.ref am, .ref oM, .ref oS, .ref oK, .ref oL, .ref oD])), (am, .inl (tm, 512, .inl f))] sz) []) (va_A [(h0, .inr (7, [.ref oB, .ref oP])), (oB, .inr (0, [.ref am, .ref oM, .ref oS, .ref oK, .ref oL, .ref oD])), (am, .inl (tm, 512, .inl f))] sz)) (vx_X (fun _ : Unit => True) (fun (E : String) (_ : Unit) (_ : State) => E = "java/lang/IllegalArgumentException" ∧ ¬ ((0 ≤ p0.toInt ∧ p0.toInt < 1024 ∧ p0.toInt % 2 = 0) ∧ (0 ≤ p1.toInt ∧ p1.toInt ≤ 65535))) (va_A [(h0, .inr (7, [.ref oB, .ref oP])), (oB, .inr (0, [.ref am, .ref oM, .ref oS, .ref oK, .ref oL, .ref oD])), (am, .inl (tm, 512, .inl f))] sz)) 1 6 (va_A [(h0, .inr (7, [.ref oB, .ref oP])), (oB, .inr (0, [.ref am, .ref oM, .ref oS, .ref oK, .ref oL, .ref oD])), (am, .inl (tm, 512, .inl f))] sz) := by
  refine vx_ofW (cc := cX8_deposit) (maxL := 3) (ret := none) (by decide) rfl ?_
  intro p e s m args below meth c s₁ B hml htab hv
  obtain ⟨rfl, hsz, hP, hK, hD0, hZU, hZN, hd1, hd2, hd3, hcI⟩ := hv
  have hx := B.exec
  have hb := B.bytes
  have hr := B.returns
  have hts := atoms_spec (ws := wsX8_deposit) B.pre
  have hown : s.vm.findClass RX8 = some m.cls := findClass_of_methodNamed B.named
  have hlocks := B.notSynchronized
  subst hsz
  have hD := hD0.self (sz := s.heap.size)
  generalize hAe : va_A [(h0, .inr (7, [.ref oB, .ref oP])), (oB, .inr (0, [.ref am, .ref oM, .ref oS, .ref oK, .ref oL, .ref oD])), (am, .inl (tm, 512, .inl f))] s.heap.size = A at hD hZU hZN ⊢
  have hA : ∀ q : Nat, s.heap.size ≤ q → A q := fun q h => by rw [← hAe]; exact Or.inr h
  have hS0 : ∀ G : Heap, s.heap = G → va_S A s.heap G [] := fun G h => by subst h; exact va_S.rf
  generalize hHe : s.heap = H at hP ⊢
  have hS := hS0 H hHe
  have hP : va_P (dC, dI) vwCl [(h0, .inr (7, [.ref oB, .ref oP])), (oB, .inr (0, [.ref am, .ref oM, .ref oS, .ref oK, .ref oL, .ref oD])), (am, .inl (tm, 512, .inl f))] H := hP
  have hD : va_D A [(h0, .inr (7, [.ref oB, .ref oP])), (oB, .inr (0, [.ref am, .ref oM, .ref oS, .ref oK, .ref oL, .ref oD])), (am, .inl (tm, 512, .inl f))] := hD
  have hK : va_K (dC, dI) vwCl [(tm, .int)] s := hK
  have hl := lv_entry ([.ref h0, .int p0, .int p1]) (n := 3) (Nat.le_of_ble_eq_true rfl)
  rw [lg_entry_eq]
  generalize (lg_sl ([.ref h0, .int p0, .int p1]) ++ List.replicate (3 - (lg_sl ([.ref h0, .int p0, .int p1])).length) Slot.unset).toArray = ls at hl ⊢
  have hl : lv_has ls 3 [(0, .ref h0), (1, .int p0), (2, .int p1)] := hl
  refine lv_iload_n hx hb dX8_deposit_0 rfl (lv_at hl 1 rfl) ?_
  have hPc := hP.sub (ws' := []) [] rfl
  have hDc := hD.sub (ws' := []) [] (by decide) rfl
  have hKc := hK.sub (tys' := []) [] rfl
  have hFc := va_free (wc := []) hD hS hA [] rfl
  refine va_calli (va_runS (As := [.int p0]) (rest := []) ⟨hx, hb, hml, hown, hts⟩ (c_isMemory l dC dI p0 H.size) (va_cwS 1 hts gX8_deposit_X8_isMemory rfl rfl rfl (by decide +kernel) ⟨Nat.le_of_ble_eq_true rfl, Nat.le_of_ble_eq_true rfl⟩) ⟨fun a U g mk q => by obtain ⟨q0, q1, qP, qK, qD⟩ := q; exact ⟨q0, q1, qP, va_K.moved (u := U) (U := U.calling g mk a) (Vm.Alike.refl U.vm) qK, qD⟩, fun U hU hW => ⟨rfl, by rw [hU], by rw [hU]; exact hPc, va_K.moved hW.alike hKc, hDc.weaken (fun _ _ _ _ => trivial)⟩⟩ rfl rfl hl.1 rfl (lv_room (Nat.le_of_ble_eq_true rfl)) dX8_deposit_1 ⟨Nat.le_of_ble_eq_true rfl, Nat.le_of_ble_eq_true rfl⟩) hS (fun q _ h => hFc q h) hFc (fun r1 u2 t H1 locs ht hvm hw hB hz1 hk1 hS => ?_)
  obtain ⟨hP1, hK1, hD1⟩ := hB
  rw [ht] at hP1
  have hK1 := va_K.moved hvm.symm hK1
  try dsimp only at hw
  obtain ⟨hP, hD⟩ := va_join (wr := [(h0, .inr (7, [.ref oB, .ref oP])), (oB, .inr (0, [.ref am, .ref oM, .ref oS, .ref oK, .ref oL, .ref oD])), (am, .inl (tm, 512, .inl f))]) (w1 := []) hP hD [] [0, 1, 2] rfl rfl (by decide) (by decide) hk1 hFc hP1 hD1
  have hK := (hK.sub (tys' := [(tm, .int)]) [0] rfl).app hK1
  generalize H1 = H at hP hS ⊢
  have hP : va_P (dC, dI) vwCl [(h0, .inr (7, [.ref oB, .ref oP])), (oB, .inr (0, [.ref am, .ref oM, .ref oS, .ref oK, .ref oL, .ref oD])), (am, .inl (tm, 512, .inl f))] H := hP
  have hD : va_D A [(h0, .inr (7, [.ref oB, .ref oP])), (oB, .inr (0, [.ref am, .ref oM, .ref oS, .ref oK, .ref oL, .ref oD])), (am, .inl (tm, 512, .inl f))] := hD
  have hK : va_K (dC, dI) vwCl [(tm, .int)] s := hK
  rcases hw with ⟨rfl, _, _, _⟩ | ⟨rfl, _⟩
  · skip
    refine lv_if_eq (tgt := 14) hx hb dX8_deposit_4 (by decide) (fun c3 => ?_) (fun c3 => ?_)
    · exact absurd c3 (by decide)
    · skip
      refine lv_iload_n hx hb dX8_deposit_7 rfl (lv_at hl 2 rfl) ?_
      have hPc := hP.sub (ws' := []) [] rfl
      have hDc := hD.sub (ws' := []) [] (by decide) rfl
      have hKc := hK.sub (tys' := []) [] rfl
      have hFc := va_free (wc := []) hD hS hA [] rfl
      refine va_calli (va_runS (As := [.int p1]) (rest := []) ⟨hx, hb, hml, hown, hts⟩ (c_isWord l dC dI p1 H.size) (va_cwS 1 hts gX8_deposit_X8_isWord rfl rfl rfl (by decide +kernel) ⟨Nat.le_of_ble_eq_true rfl, Nat.le_of_ble_eq_true rfl⟩) ⟨fun a U g mk q => by obtain ⟨q0, q1, qP, qK, qD⟩ := q; exact ⟨q0, q1, qP, va_K.moved (u := U) (U := U.calling g mk a) (Vm.Alike.refl U.vm) qK, qD⟩, fun U hU hW => ⟨rfl, by rw [hU], by rw [hU]; exact hPc, va_K.moved hW.alike hKc, hDc.weaken (fun _ _ _ _ => trivial)⟩⟩ rfl rfl hl.1 rfl (lv_room (Nat.le_of_ble_eq_true rfl)) dX8_deposit_8 ⟨Nat.le_of_ble_eq_true rfl, Nat.le_of_ble_eq_true rfl⟩) hS (fun q _ h => hFc q h) hFc (fun r4 u5 t H1 locs ht hvm hw hB hz1 hk1 hS => ?_)
      obtain ⟨hP1, hK1, hD1⟩ := hB
      rw [ht] at hP1
      have hK1 := va_K.moved hvm.symm hK1
      try dsimp only at hw
      obtain ⟨hP, hD⟩ := va_join (wr := [(h0, .inr (7, [.ref oB, .ref oP])), (oB, .inr (0, [.ref am, .ref oM, .ref oS, .ref oK, .ref oL, .ref oD])), (am, .inl (tm, 512, .inl f))]) (w1 := []) hP hD [] [0, 1, 2] rfl rfl (by decide) (by decide) hk1 hFc hP1 hD1
      have hK := (hK.sub (tys' := [(tm, .int)]) [0] rfl).app hK1
      generalize H1 = H at hP hS ⊢
      have hP : va_P (dC, dI) vwCl [(h0, .inr (7, [.ref oB, .ref oP])), (oB, .inr (0, [.ref am, .ref oM, .ref oS, .ref oK, .ref oL, .ref oD])), (am, .inl (tm, 512, .inl f))] H := hP
      have hD : va_D A [(h0, .inr (7, [.ref oB, .ref oP])), (oB, .inr (0, [.ref am, .ref oM, .ref oS, .ref oK, .ref oL, .ref oD])), (am, .inl (tm, 512, .inl f))] := hD
      have hK : va_K (dC, dI) vwCl [(tm, .int)] s := hK
      rcases hw with ⟨rfl, _, _⟩ | ⟨rfl, _⟩
      · skip
        refine lv_if_ne (tgt := 22) hx hb dX8_deposit_11 (by decide) (fun c6 => ?_) (fun c6 => ?_)
        · skip
          refine lv_aload_n hx hb dX8_deposit_22 rfl (lv_at hl 0 rfl) ?_
          refine va_get (D := (dC, dI)) (ci := 7) (v := .ref oB) (C := RX8) (T := TX8) (N := 2) hx hb hts (by decide +kernel) hown hK hP 0 rfl rfl 0 (by decide) (hts (.fieldLink RX8 10 "UnibusMachine" "bus" "LUnibusMachine$Bus;") (by decide +kernel)) (fun _ h9 => h9) rfl dX8_deposit_23 ?_
          refine va_get (D := (dC, dI)) (ci := 0) (v := .ref am) (C := RX0) (T := TX0) (N := 6) hx hb hts (by decide +kernel) hown hK hP 1 rfl rfl 0 (by decide) (hts (.fieldLink RX8 35 "UnibusMachine$Bus" "memory" "[I") (by decide +kernel)) (fun _ h9 => h9) rfl dX8_deposit_26 ?_
          refine lv_iload_n hx hb dX8_deposit_29 rfl (lv_at hl 1 rfl) ?_
          refine lv_iconst (v := 1) hx hb dX8_deposit_30 (by decide) ?_
          refine lv_ishr hx hb dX8_deposit_31 ?_
          have f1 := fz_shr1 p0 (by omega)
          refine lv_iload_n hx hb dX8_deposit_32 rfl (lv_at hl 2 rfl) ?_
          refine va_iast (D := (dC, dI)) hx hb hK hP hD hS 2 0 rfl rfl (vp_in_iff.mpr (by constructor <;> omega)) dX8_deposit_33 (fun H locs hP hD hS => ?_)
          have hP : va_P (dC, dI) vwCl [(h0, .inr (7, [.ref oB, .ref oP])), (oB, .inr (0, [.ref am, .ref oM, .ref oS, .ref oK, .ref oL, .ref oD])), (am, .inl (tm, 512, .inl (upd f (p0 >>> (1 &&& 31) : Int32).toNatClampNeg p1)))] H := hP
          have hD : va_D A [(h0, .inr (7, [.ref oB, .ref oP])), (oB, .inr (0, [.ref am, .ref oM, .ref oS, .ref oK, .ref oL, .ref oD])), (am, .inl (tm, 512, .inl (upd f (p0 >>> (1 &&& 31) : Int32).toNatClampNeg p1)))] := hD
          have hP9 := hP.sub (ws' := []) [] rfl
          have hD9 := hD.sub (ws' := []) [] (by decide) rfl
          have hK9 := hK.sub (tys' := []) [] rfl
          refine vx_ret ?_
          refine W.widen (k := 1) (n := 6) (Nat.le_of_ble_eq_true rfl) (Nat.le_of_ble_eq_true rfl) ?_
          exact W.vret hx hb hr (fun t ht hW => ⟨⟨(), rfl, (by omega), by rw [ht]; exact hP9, va_K.moved hW.alike hK9, hD9⟩, hS.F ht⟩) hS.2.2 dX8_deposit_34
        · exact absurd c6 (by decide)
      · skip
        refine lv_if_ne (tgt := 22) hx hb dX8_deposit_11 (by decide) (fun c7 => ?_) (fun c7 => ?_)
        · exact absurd c7 (by decide)
        · skip
          have hpx9 : "java/lang/IllegalArgumentException" = "java/lang/IllegalArgumentException" ∧ ¬ ((0 ≤ p0.toInt ∧ p0.toInt < 1024 ∧ p0.toInt % 2 = 0) ∧ (0 ≤ p1.toInt ∧ p1.toInt ≤ 65535)) := by exact ⟨rfl, by omega⟩
          exact vx_throw0 (names := ["java/lang/RuntimeException", "java/lang/Exception"]) (cls := "java/lang/IllegalArgumentException") (ik := 32) (ic := 34) (A := A) hx hb hlt hown (by decide) (by decide) (hts (.classLink RX8 32 "java/lang/IllegalArgumentException") (by decide +kernel)) (hts (.initialized "java/lang/IllegalArgumentException") (by decide +kernel)) (vx_hat (fun w h => hts w (List.mem_cons_of_mem _ (List.mem_append_right _ h))) (by decide +kernel) (vx_c (va_Nw.use rfl hcI) (vx_c (va_Nw.use rfl hd1) (vx_c (va_Nw.use rfl hd2) (vx_c (va_Nw.use rfl hd3) vx_n))))) (by decide +kernel) hZU hZN hS (by rw [hml]; exact hl.1) dX8_deposit_14 dX8_deposit_17 dX8_deposit_18 dX8_deposit_21 (fun x h => (htab x h).elim) (Nat.le_of_ble_eq_true rfl) (Nat.le_of_ble_eq_true rfl) (Nat.le_of_ble_eq_true rfl) (Nat.le_of_ble_eq_true rfl) hlocks (fun t hal hz hk => ⟨(), trivial, hpx9, Nat.le_trans hS.1 hz, fun q h1 h2 => (hk q (Nat.lt_of_lt_of_le h1 hS.1)).trans (hS.2.1 q h1 h2)⟩) hS.2.2 (Nat.le_of_ble_eq_true rfl) (Nat.le_of_ble_eq_true rfl)
  · skip
    refine lv_if_eq (tgt := 14) hx hb dX8_deposit_4 (by decide) (fun c8 => ?_) (fun c8 => ?_)
    · skip
      have hpx9 : "java/lang/IllegalArgumentException" = "java/lang/IllegalArgumentException" ∧ ¬ ((0 ≤ p0.toInt ∧ p0.toInt < 1024 ∧ p0.toInt % 2 = 0) ∧ (0 ≤ p1.toInt ∧ p1.toInt ≤ 65535)) := by exact ⟨rfl, by omega⟩
      exact vx_throw0 (names := ["java/lang/RuntimeException", "java/lang/Exception"]) (cls := "java/lang/IllegalArgumentException") (ik := 32) (ic := 34) (A := A) hx hb hlt hown (by decide) (by decide) (hts (.classLink RX8 32 "java/lang/IllegalArgumentException") (by decide +kernel)) (hts (.initialized "java/lang/IllegalArgumentException") (by decide +kernel)) (vx_hat (fun w h => hts w (List.mem_cons_of_mem _ (List.mem_append_right _ h))) (by decide +kernel) (vx_c (va_Nw.use rfl hcI) (vx_c (va_Nw.use rfl hd1) (vx_c (va_Nw.use rfl hd2) (vx_c (va_Nw.use rfl hd3) vx_n))))) (by decide +kernel) hZU hZN hS (by rw [hml]; exact hl.1) dX8_deposit_14 dX8_deposit_17 dX8_deposit_18 dX8_deposit_21 (fun x h => (htab x h).elim) (Nat.le_of_ble_eq_true rfl) (Nat.le_of_ble_eq_true rfl) (Nat.le_of_ble_eq_true rfl) (Nat.le_of_ble_eq_true rfl) hlocks (fun t hal hz hk => ⟨(), trivial, hpx9, Nat.le_trans hS.1 hz, fun q h1 h2 => (hk q (Nat.lt_of_lt_of_le h1 hS.1)).trans (hS.2.1 q h1 h2)⟩) hS.2.2 (Nat.le_of_ble_eq_true rfl) (Nat.le_of_ble_eq_true rfl)
    · exact absurd c8 (by decide)
set_option maxHeartbeats 4000000 in
set_option maxRecDepth 100000 in
theorem c_examine (l : Launch) (dC : Nat → ClassId) (dI : Nat → Nat → Nat) (h0 : Nat) (oB : Nat) (oP : Nat) (am : Nat) (oM : Nat) (oS : Nat) (oK : Nat) (oL : Nat) (oD : Nat) (tm : ClassId) (p0 : Int32) (sz : Nat) (hlt : l.stackTraces = false) : vx_Met l yX8_examine wsX8_examine ({ frames := 6, cells := 1, slots := 6, locals := 81 } : Room) (va_Pc [.ref h0, .int p0] (fun U => U.heap.size = sz ∧ va_P (dC, dI) vwCl [(h0, .inr (7, [.ref oB, .ref oP])), (oB, .inr (0, [.ref am, .ref oM, .ref oS, .ref oK, .ref oL, .ref oD])), (am, .inl (tm, 512, .inl (fun _ => 0)))] U.heap ∧ va_K (dC, dI) vwCl [(tm, .int)] U ∧ va_D (fun _ => True) [(h0, .inr (7, [.ref oB, .ref oP])), (oB, .inr (0, [.ref am, .ref oM, .ref oS, .ref oK, .ref oL, .ref oD])), (am, .inl (tm, 512, .inl (fun _ => 0)))] ∧ vx_Zq Bundle.tN "UNASSIGNED_STACK" Bundle.steD (va_A [(h0, .inr (7, [.ref oB, .ref oP])), (oB, .inr (0, [.ref am, .ref oM, .ref oS, .ref oK, .ref oL, .ref oD])), (am, .inl (tm, 512, .inl (fun _ => 0)))] sz) U U.heap ∧ vx_Zq Bundle.tN "SUPPRESSED_SENTINEL" Bundle.listD (va_A [(h0, .inr (7, [.ref oB, .ref oP])), (oB, .inr (0, [.ref am, .ref oM, .ref oS, .ref oK, .ref oL, .ref oD])), (am, .inl (tm, 512, .inl (fun _ => 0)))] sz) U U.heap ∧ va_Nw (.declares (Bundle.init0 "java/lang/RuntimeException")) U ∧ va_Nw (.declares (Bundle.init0 "java/lang/Exception")) U ∧ va_Nw (.declares (Bundle.init0 Bundle.tN)) U ∧ va_Nw (.castable "java/lang/IllegalArgumentException" "java/lang/IllegalArgumentException") U)) (va_Qi (fun (r : Int32) (u : Unit) => r = 0 ∧ (0 ≤ p0.toInt ∧ p0.toInt < 1024 ∧ p0.toInt % 2 = 0)) (fun (u : Unit) (t : State) => va_P (dC, dI) vwCl [] t.heap ∧ va_K (dC, dI) vwCl [] t ∧ va_D (va_A [(h0, .inr (7, [.ref oB, .ref oP])), (oB, .inr (0, [.ref am, .ref oM, .ref oS, .ref oK, .ref oL, .ref oD])), (am, .inl (tm, 512, .inl (fun _ => 0)))] sz) []) (va_A [(h0, .inr (7, [.ref oB, .ref oP])), (oB, .inr (0, [.ref am, .ref oM, .ref oS, .ref oK, .ref oL, .ref oD])), (am, .inl (tm, 512, .inl (fun _ => 0)))] sz)) (vx_X (fun _ : Unit => True) (fun (E : String) (_ : Unit) (_ : State) => E = "java/lang/IllegalArgumentException" ∧ ¬ (0 ≤ p0.toInt ∧ p0.toInt < 1024 ∧ p0.toInt % 2 = 0)) (va_A [(h0, .inr (7, [.ref oB, .ref oP])), (oB, .inr (0, [.ref am, .ref oM, .ref oS, .ref oK, .ref oL, .ref oD])), (am, .inl (tm, 512, .inl (fun _ => 0)))] sz)) 1 6 (va_A [(h0, .inr (7, [.ref oB, .ref oP])), (oB, .inr (0, [.ref am, .ref oM, .ref oS, .ref oK, .ref oL, .ref oD])), (am, .inl (tm, 512, .inl (fun _ => 0)))] sz) := by
  refine vx_ofW (cc := cX8_examine) (maxL := 2) (ret := (some .int)) (by decide) rfl ?_
  intro p e s m args below meth c s₁ B hml htab hv
  obtain ⟨rfl, hsz, hP, hK, hD0, hZU, hZN, hd1, hd2, hd3, hcI⟩ := hv
  have hx := B.exec
  have hb := B.bytes
  have hr := B.returns
  have hts := atoms_spec (ws := wsX8_examine) B.pre
  have hown : s.vm.findClass RX8 = some m.cls := findClass_of_methodNamed B.named
  have hlocks := B.notSynchronized
  subst hsz
  have hD := hD0.self (sz := s.heap.size)
  generalize hAe : va_A [(h0, .inr (7, [.ref oB, .ref oP])), (oB, .inr (0, [.ref am, .ref oM, .ref oS, .ref oK, .ref oL, .ref oD])), (am, .inl (tm, 512, .inl (fun _ => 0)))] s.heap.size = A at hD hZU hZN ⊢
  have hA : ∀ q : Nat, s.heap.size ≤ q → A q := fun q h => by rw [← hAe]; exact Or.inr h
  have hS0 : ∀ G : Heap, s.heap = G → va_S A s.heap G [] := fun G h => by subst h; exact va_S.rf
  generalize hHe : s.heap = H at hP ⊢
  have hS := hS0 H hHe
  have hP : va_P (dC, dI) vwCl [(h0, .inr (7, [.ref oB, .ref oP])), (oB, .inr (0, [.ref am, .ref oM, .ref oS, .ref oK, .ref oL, .ref oD])), (am, .inl (tm, 512, .inl (fun _ => 0)))] H := hP
  have hD : va_D A [(h0, .inr (7, [.ref oB, .ref oP])), (oB, .inr (0, [.ref am, .ref oM, .ref oS, .ref oK, .ref oL, .ref oD])), (am, .inl (tm, 512, .inl (fun _ => 0)))] := hD
  have hK : va_K (dC, dI) vwCl [(tm, .int)] s := hK
  have hl := lv_entry ([.ref h0, .int p0]) (n := 2) (Nat.le_of_ble_eq_true rfl)
  rw [lg_entry_eq]
  generalize (lg_sl ([.ref h0, .int p0]) ++ List.replicate (2 - (lg_sl ([.ref h0, .int p0])).length) Slot.unset).toArray = ls at hl ⊢
  have hl : lv_has ls 2 [(0, .ref h0), (1, .int p0)] := hl
  refine lv_iload_n hx hb dX8_examine_0 rfl (lv_at hl 1 rfl) ?_
  have hPc := hP.sub (ws' := []) [] rfl
  have hDc := hD.sub (ws' := []) [] (by decide) rfl
  have hKc := hK.sub (tys' := []) [] rfl
  have hFc := va_free (wc := []) hD hS hA [] rfl
  refine va_calli (va_runS (As := [.int p0]) (rest := []) ⟨hx, hb, hml, hown, hts⟩ (c_isMemory l dC dI p0 H.size) (va_cwS 1 hts gX8_examine_X8_isMemory rfl rfl rfl (by decide +kernel) ⟨Nat.le_of_ble_eq_true rfl, Nat.le_of_ble_eq_true rfl⟩) ⟨fun a U g mk q => by obtain ⟨q0, q1, qP, qK, qD⟩ := q; exact ⟨q0, q1, qP, va_K.moved (u := U) (U := U.calling g mk a) (Vm.Alike.refl U.vm) qK, qD⟩, fun U hU hW => ⟨rfl, by rw [hU], by rw [hU]; exact hPc, va_K.moved hW.alike hKc, hDc.weaken (fun _ _ _ _ => trivial)⟩⟩ rfl rfl hl.1 rfl (lv_room (Nat.le_of_ble_eq_true rfl)) dX8_examine_1 ⟨Nat.le_of_ble_eq_true rfl, Nat.le_of_ble_eq_true rfl⟩) hS (fun q _ h => hFc q h) hFc (fun r1 u2 t H1 locs ht hvm hw hB hz1 hk1 hS => ?_)
  obtain ⟨hP1, hK1, hD1⟩ := hB
  rw [ht] at hP1
  have hK1 := va_K.moved hvm.symm hK1
  try dsimp only at hw
  obtain ⟨hP, hD⟩ := va_join (wr := [(h0, .inr (7, [.ref oB, .ref oP])), (oB, .inr (0, [.ref am, .ref oM, .ref oS, .ref oK, .ref oL, .ref oD])), (am, .inl (tm, 512, .inl (fun _ => 0)))]) (w1 := []) hP hD [] [0, 1, 2] rfl rfl (by decide) (by decide) hk1 hFc hP1 hD1
  have hK := (hK.sub (tys' := [(tm, .int)]) [0] rfl).app hK1
  generalize H1 = H at hP hS ⊢
  have hP : va_P (dC, dI) vwCl [(h0, .inr (7, [.ref oB, .ref oP])), (oB, .inr (0, [.ref am, .ref oM, .ref oS, .ref oK, .ref oL, .ref oD])), (am, .inl (tm, 512, .inl (fun _ => 0)))] H := hP
  have hD : va_D A [(h0, .inr (7, [.ref oB, .ref oP])), (oB, .inr (0, [.ref am, .ref oM, .ref oS, .ref oK, .ref oL, .ref oD])), (am, .inl (tm, 512, .inl (fun _ => 0)))] := hD
  have hK : va_K (dC, dI) vwCl [(tm, .int)] s := hK
  rcases hw with ⟨rfl, _, _, _⟩ | ⟨rfl, _⟩
  · skip
    refine lv_if_ne (tgt := 15) hx hb dX8_examine_4 (by decide) (fun c3 => ?_) (fun c3 => ?_)
    · skip
      refine lv_aload_n hx hb dX8_examine_15 rfl (lv_at hl 0 rfl) ?_
      refine va_get (D := (dC, dI)) (ci := 7) (v := .ref oB) (C := RX8) (T := TX8) (N := 2) hx hb hts (by decide +kernel) hown hK hP 0 rfl rfl 0 (by decide) (hts (.fieldLink RX8 10 "UnibusMachine" "bus" "LUnibusMachine$Bus;") (by decide +kernel)) (fun _ h9 => h9) rfl dX8_examine_16 ?_
      refine va_get (D := (dC, dI)) (ci := 0) (v := .ref am) (C := RX0) (T := TX0) (N := 6) hx hb hts (by decide +kernel) hown hK hP 1 rfl rfl 0 (by decide) (hts (.fieldLink RX8 35 "UnibusMachine$Bus" "memory" "[I") (by decide +kernel)) (fun _ h9 => h9) rfl dX8_examine_19 ?_
      refine lv_iload_n hx hb dX8_examine_22 rfl (lv_at hl 1 rfl) ?_
      refine lv_iconst (v := 1) hx hb dX8_examine_23 (by decide) ?_
      refine lv_ishr hx hb dX8_examine_24 ?_
      have f1 := fz_shr1 p0 (by omega)
      refine va_iald (D := (dC, dI)) hx hb hK hP 2 0 rfl rfl (vp_in_iff.mpr (by constructor <;> omega)) dX8_examine_25 ?_
      have hP9 := hP.sub (ws' := []) [] rfl
      have hD9 := hD.sub (ws' := []) [] (by decide) rfl
      have hK9 := hK.sub (tys' := []) [] rfl
      refine vx_ret ?_
      refine W.widen (k := 1) (n := 6) (Nat.le_of_ble_eq_true rfl) (Nat.le_of_ble_eq_true rfl) ?_
      exact W.iret (v := 0) hx hb hr (fun t ht hW => ⟨⟨0, (), rfl, ⟨rfl, by omega⟩, by rw [ht]; exact hP9, va_K.moved hW.alike hK9, hD9⟩, hS.F ht⟩) hS.2.2 dX8_examine_26
    · exact absurd c3 (by decide)
  · skip
    refine lv_if_ne (tgt := 15) hx hb dX8_examine_4 (by decide) (fun c4 => ?_) (fun c4 => ?_)
    · exact absurd c4 (by decide)
    · skip
      have hpx9 : "java/lang/IllegalArgumentException" = "java/lang/IllegalArgumentException" ∧ ¬ (0 ≤ p0.toInt ∧ p0.toInt < 1024 ∧ p0.toInt % 2 = 0) := by exact ⟨rfl, by omega⟩
      exact vx_throw0 (names := ["java/lang/RuntimeException", "java/lang/Exception"]) (cls := "java/lang/IllegalArgumentException") (ik := 32) (ic := 34) (A := A) hx hb hlt hown (by decide) (by decide) (hts (.classLink RX8 32 "java/lang/IllegalArgumentException") (by decide +kernel)) (hts (.initialized "java/lang/IllegalArgumentException") (by decide +kernel)) (vx_hat (fun w h => hts w (List.mem_cons_of_mem _ (List.mem_append_right _ h))) (by decide +kernel) (vx_c (va_Nw.use rfl hcI) (vx_c (va_Nw.use rfl hd1) (vx_c (va_Nw.use rfl hd2) (vx_c (va_Nw.use rfl hd3) vx_n))))) (by decide +kernel) hZU hZN hS (by rw [hml]; exact hl.1) dX8_examine_7 dX8_examine_10 dX8_examine_11 dX8_examine_14 (fun x h => (htab x h).elim) (Nat.le_of_ble_eq_true rfl) (Nat.le_of_ble_eq_true rfl) (Nat.le_of_ble_eq_true rfl) (Nat.le_of_ble_eq_true rfl) hlocks (fun t hal hz hk => ⟨(), trivial, hpx9, Nat.le_trans hS.1 hz, fun q h1 h2 => (hk q (Nat.lt_of_lt_of_le h1 hS.1)).trans (hS.2.1 q h1 h2)⟩) hS.2.2 (Nat.le_of_ble_eq_true rfl) (Nat.le_of_ble_eq_true rfl)
set_option maxHeartbeats 4000000 in
set_option maxRecDepth 100000 in
theorem c_mode (l : Launch) (dC : Nat → ClassId) (dI : Nat → Nat → Nat) (h0 : Nat) (ar : Nat) (oB : Nat) (oS : Nat) (sz : Nat) : Met l yX6_mode wsX6_mode ({ frames := 0, cells := 0, slots := 0, locals := 0 } : Room) (va_Pc [.ref h0] (fun U => U.heap.size = sz ∧ va_P (dC, dI) vwCl [(h0, .inr (5, [.ref ar, .ref oB, .ref oS, .int 0, .int 2, .int 0, .int 0, .int 0, .int 0])), (oS, .inr (6, [.int 0, .int (-1)]))] U.heap ∧ va_K (dC, dI) vwCl [] U ∧ va_D (fun _ => True) [(h0, .inr (5, [.ref ar, .ref oB, .ref oS, .int 0, .int 2, .int 0, .int 0, .int 0, .int 0])), (oS, .inr (6, [.int 0, .int (-1)]))])) (va_Qi (fun (r : Int32) (u : Unit) => r = 0) (fun (u : Unit) (t : State) => va_P (dC, dI) vwCl [(h0, .inr (5, [.ref ar, .ref oB, .ref oS, .int 0, .int 2, .int 0, .int 0, .int 0, .int 0])), (oS, .inr (6, [.int 0, .int (-1)]))] t.heap ∧ va_K (dC, dI) vwCl [] t ∧ va_D (va_A [(h0, .inr (5, [.ref ar, .ref oB, .ref oS, .int 0, .int 2, .int 0, .int 0, .int 0, .int 0])), (oS, .inr (6, [.int 0, .int (-1)]))] sz) [(h0, .inr (5, [.ref ar, .ref oB, .ref oS, .int 0, .int 2, .int 0, .int 0, .int 0, .int 0])), (oS, .inr (6, [.int 0, .int (-1)]))]) (va_A [(h0, .inr (5, [.ref ar, .ref oB, .ref oS, .int 0, .int 2, .int 0, .int 0, .int 0, .int 0])), (oS, .inr (6, [.int 0, .int (-1)]))] sz)) 0 0 (va_A [(h0, .inr (5, [.ref ar, .ref oB, .ref oS, .int 0, .int 2, .int 0, .int 0, .int 0, .int 0])), (oS, .inr (6, [.int 0, .int (-1)]))] sz) := by
  refine Met.ofW (cc := cX6_mode) (maxL := 1) (ret := (some .int)) (by decide) rfl ?_
  intro p e s m args below meth c s₁ B hml hv
  obtain ⟨rfl, hsz, hP, hK, hD0⟩ := hv
  have hx := B.exec
  have hb := B.bytes
  have hr := B.returns
  have hts := atoms_spec (ws := wsX6_mode) B.pre
  have hown : s.vm.findClass RX6 = some m.cls := findClass_of_methodNamed B.named
  have hlocks := B.notSynchronized
  subst hsz
  have hD := hD0.self (sz := s.heap.size)
  generalize hAe : va_A [(h0, .inr (5, [.ref ar, .ref oB, .ref oS, .int 0, .int 2, .int 0, .int 0, .int 0, .int 0])), (oS, .inr (6, [.int 0, .int (-1)]))] s.heap.size = A at hD ⊢
  have hA : ∀ q : Nat, s.heap.size ≤ q → A q := fun q h => by rw [← hAe]; exact Or.inr h
  have hS0 : ∀ G : Heap, s.heap = G → va_S A s.heap G [] := fun G h => by subst h; exact va_S.rf
  generalize hHe : s.heap = H at hP ⊢
  have hS := hS0 H hHe
  have hP : va_P (dC, dI) vwCl [(h0, .inr (5, [.ref ar, .ref oB, .ref oS, .int 0, .int 2, .int 0, .int 0, .int 0, .int 0])), (oS, .inr (6, [.int 0, .int (-1)]))] H := hP
  have hD : va_D A [(h0, .inr (5, [.ref ar, .ref oB, .ref oS, .int 0, .int 2, .int 0, .int 0, .int 0, .int 0])), (oS, .inr (6, [.int 0, .int (-1)]))] := hD
  have hK : va_K (dC, dI) vwCl [] s := hK
  have hl := lv_entry ([.ref h0]) (n := 1) (Nat.le_of_ble_eq_true rfl)
  rw [lg_entry_eq]
  generalize (lg_sl ([.ref h0]) ++ List.replicate (1 - (lg_sl ([.ref h0])).length) Slot.unset).toArray = ls at hl ⊢
  have hl : lv_has ls 1 [(0, .ref h0)] := hl
  refine lv_aload_n hx hb dX6_mode_0 rfl (lv_at hl 0 rfl) ?_
  refine va_get (D := (dC, dI)) (ci := 5) (v := .ref oS) (C := RX6) (T := TX6) (N := 9) hx hb hts (by decide +kernel) hown hK hP 0 rfl rfl 2 (by decide) (hts (.fieldLink RX6 43 "UnibusMachine$Processor" "status" "LUnibusMachine$Status;") (by decide +kernel)) (fun _ h9 => h9) rfl dX6_mode_1 ?_
  refine va_get (D := (dC, dI)) (ci := 6) (v := .int 0) (C := RX7) (T := TX7) (N := 2) hx hb hts (by decide +kernel) hown hK hP 1 rfl rfl 0 (by decide) (hts (.fieldLink RX6 44 "UnibusMachine$Status" "now" "I") (by decide +kernel)) (fun _ h9 => h9) rfl dX6_mode_4 ?_
  refine lv_bipush (v := 14) hx hb dX6_mode_7 (by decide) ?_
  refine lv_ishr hx hb dX6_mode_9 ?_
  refine lv_topi (fun y1 ey1 => ?_)
  obtain rfl : y1 = 0 := by rw [ey1]; decide
  refine lv_iconst (v := 1) hx hb dX6_mode_10 (by decide) ?_
  refine lv_iand hx hb dX6_mode_11 ?_
  refine lv_topi (fun y2 ey2 => ?_)
  obtain rfl : y2 = 0 := by rw [ey2]; decide
  have hP9 := hP.sub (ws' := [(h0, .inr (5, [.ref ar, .ref oB, .ref oS, .int 0, .int 2, .int 0, .int 0, .int 0, .int 0])), (oS, .inr (6, [.int 0, .int (-1)]))]) [0, 1] rfl
  have hD9 := hD.sub (ws' := [(h0, .inr (5, [.ref ar, .ref oB, .ref oS, .int 0, .int 2, .int 0, .int 0, .int 0, .int 0])), (oS, .inr (6, [.int 0, .int (-1)]))]) [0, 1] (by decide) rfl
  have hK9 := hK.sub (tys' := []) [] rfl
  exact W.iret (v := 0) hx hb hr (fun t ht hW => ⟨⟨0, (), rfl, rfl, by rw [ht]; exact hP9, va_K.moved hW.alike hK9, hD9⟩, hS.F ht⟩) hS.2.2 dX6_mode_12
set_option maxHeartbeats 4000000 in
set_option maxRecDepth 100000 in
theorem c_set (l : Launch) (dC : Nat → ClassId) (dI : Nat → Nat → Nat) (h0 : Nat) (oB : Nat) (oP : Nat) (oS : Nat) (ar : Nat) (tr : ClassId) (p0 : Int32) (p1 : Int32) (sz : Nat) (hlt : l.stackTraces = false) : vx_Met l yX8_set wsX8_set ({ frames := 6, cells := 1, slots := 6, locals := 81 } : Room) (va_Pc [.ref h0, .int p0, .int p1] (fun U => U.heap.size = sz ∧ va_P (dC, dI) vwCl [(h0, .inr (7, [.ref oB, .ref oP])), (oP, .inr (5, [.ref ar, .ref oB, .ref oS, .int 0, .int 2, .int 0, .int 0, .int 0, .int 0])), (oS, .inr (6, [.int 0, .int (-1)])), (ar, .inl (tr, 8, .inl (fun _ => 0)))] U.heap ∧ va_K (dC, dI) vwCl [(tr, .int)] U ∧ va_D (fun _ => True) [(h0, .inr (7, [.ref oB, .ref oP])), (oP, .inr (5, [.ref ar, .ref oB, .ref oS, .int 0, .int 2, .int 0, .int 0, .int 0, .int 0])), (oS, .inr (6, [.int 0, .int (-1)])), (ar, .inl (tr, 8, .inl (fun _ => 0)))] ∧ vx_Zq Bundle.tN "UNASSIGNED_STACK" Bundle.steD (va_A [(h0, .inr (7, [.ref oB, .ref oP])), (oP, .inr (5, [.ref ar, .ref oB, .ref oS, .int 0, .int 2, .int 0, .int 0, .int 0, .int 0])), (oS, .inr (6, [.int 0, .int (-1)])), (ar, .inl (tr, 8, .inl (fun _ => 0)))] sz) U U.heap ∧ vx_Zq Bundle.tN "SUPPRESSED_SENTINEL" Bundle.listD (va_A [(h0, .inr (7, [.ref oB, .ref oP])), (oP, .inr (5, [.ref ar, .ref oB, .ref oS, .int 0, .int 2, .int 0, .int 0, .int 0, .int 0])), (oS, .inr (6, [.int 0, .int (-1)])), (ar, .inl (tr, 8, .inl (fun _ => 0)))] sz) U U.heap ∧ va_Nw (.declares (Bundle.init0 "java/lang/RuntimeException")) U ∧ va_Nw (.declares (Bundle.init0 "java/lang/Exception")) U ∧ va_Nw (.declares (Bundle.init0 Bundle.tN)) U ∧ va_Nw (.castable "java/lang/IllegalArgumentException" "java/lang/IllegalArgumentException") U)) (va_Qv (fun (u : Unit) => (0 ≤ p0.toInt ∧ p0.toInt ≤ 7) ∧ (0 ≤ p1.toInt ∧ p1.toInt ≤ 65535)) (fun (u : Unit) (t : State) => va_P (dC, dI) vwCl [] t.heap ∧ va_K (dC, dI) vwCl [] t ∧ va_D (va_A [(h0, .inr (7, [.ref oB, .ref oP])), (oP, .inr (5, [.ref ar, .ref oB, .ref oS, .int 0, .int 2, .int 0, .int 0, .int 0, .int 0])), (oS, .inr (6, [.int 0, .int (-1)])), (ar, .inl (tr, 8, .inl (fun _ => 0)))] sz) []) (va_A [(h0, .inr (7, [.ref oB, .ref oP])), (oP, .inr (5, [.ref ar, .ref oB, .ref oS, .int 0, .int 2, .int 0, .int 0, .int 0, .int 0])), (oS, .inr (6, [.int 0, .int (-1)])), (ar, .inl (tr, 8, .inl (fun _ => 0)))] sz)) (vx_X (fun _ : Unit => True) (fun (E : String) (_ : Unit) (_ : State) => E = "java/lang/IllegalArgumentException" ∧ ¬ ((0 ≤ p0.toInt ∧ p0.toInt ≤ 7) ∧ (0 ≤ p1.toInt ∧ p1.toInt ≤ 65535))) (va_A [(h0, .inr (7, [.ref oB, .ref oP])), (oP, .inr (5, [.ref ar, .ref oB, .ref oS, .int 0, .int 2, .int 0, .int 0, .int 0, .int 0])), (oS, .inr (6, [.int 0, .int (-1)])), (ar, .inl (tr, 8, .inl (fun _ => 0)))] sz)) 1 6 (va_A [(h0, .inr (7, [.ref oB, .ref oP])), (oP, .inr (5, [.ref ar, .ref oB, .ref oS, .int 0, .int 2, .int 0, .int 0, .int 0, .int 0])), (oS, .inr (6, [.int 0, .int (-1)])), (ar, .inl (tr, 8, .inl (fun _ => 0)))] sz) := by
  refine vx_ofW (cc := cX8_set) (maxL := 3) (ret := none) (by decide) rfl ?_
  intro p e s m args below meth c s₁ B hml htab hv
  obtain ⟨rfl, hsz, hP, hK, hD0, hZU, hZN, hd1, hd2, hd3, hcI⟩ := hv
  have hx := B.exec
  have hb := B.bytes
  have hr := B.returns
  have hts := atoms_spec (ws := wsX8_set) B.pre
  have hown : s.vm.findClass RX8 = some m.cls := findClass_of_methodNamed B.named
  have hlocks := B.notSynchronized
  subst hsz
  have hD := hD0.self (sz := s.heap.size)
  generalize hAe : va_A [(h0, .inr (7, [.ref oB, .ref oP])), (oP, .inr (5, [.ref ar, .ref oB, .ref oS, .int 0, .int 2, .int 0, .int 0, .int 0, .int 0])), (oS, .inr (6, [.int 0, .int (-1)])), (ar, .inl (tr, 8, .inl (fun _ => 0)))] s.heap.size = A at hD hZU hZN ⊢
  have hA : ∀ q : Nat, s.heap.size ≤ q → A q := fun q h => by rw [← hAe]; exact Or.inr h
  have hS0 : ∀ G : Heap, s.heap = G → va_S A s.heap G [] := fun G h => by subst h; exact va_S.rf
  generalize hHe : s.heap = H at hP ⊢
  have hS := hS0 H hHe
  have hP : va_P (dC, dI) vwCl [(h0, .inr (7, [.ref oB, .ref oP])), (oP, .inr (5, [.ref ar, .ref oB, .ref oS, .int 0, .int 2, .int 0, .int 0, .int 0, .int 0])), (oS, .inr (6, [.int 0, .int (-1)])), (ar, .inl (tr, 8, .inl (fun _ => 0)))] H := hP
  have hD : va_D A [(h0, .inr (7, [.ref oB, .ref oP])), (oP, .inr (5, [.ref ar, .ref oB, .ref oS, .int 0, .int 2, .int 0, .int 0, .int 0, .int 0])), (oS, .inr (6, [.int 0, .int (-1)])), (ar, .inl (tr, 8, .inl (fun _ => 0)))] := hD
  have hK : va_K (dC, dI) vwCl [(tr, .int)] s := hK
  have hl := lv_entry ([.ref h0, .int p0, .int p1]) (n := 3) (Nat.le_of_ble_eq_true rfl)
  rw [lg_entry_eq]
  generalize (lg_sl ([.ref h0, .int p0, .int p1]) ++ List.replicate (3 - (lg_sl ([.ref h0, .int p0, .int p1])).length) Slot.unset).toArray = ls at hl ⊢
  have hl : lv_has ls 3 [(0, .ref h0), (1, .int p0), (2, .int p1)] := hl
  have kk0 : (0 : Int32).toInt = 0 := by decide
  have kk6 : (6 : Int32).toInt = 6 := by decide
  have kk7 : (7 : Int32).toInt = 7 := by decide
  refine lv_iload_n hx hb dX8_set_0 rfl (lv_at hl 1 rfl) ?_
  refine lv_if_lt (tgt := 17) hx hb dX8_set_1 (by decide) (fun c1 => ?_) (fun c1 => ?_)
  · have c1 := fz_lt.mp c1
    have kk0 : (0 : Int32).toInt = 0 := by decide
    have hpx9 : "java/lang/IllegalArgumentException" = "java/lang/IllegalArgumentException" ∧ ¬ ((0 ≤ p0.toInt ∧ p0.toInt ≤ 7) ∧ (0 ≤ p1.toInt ∧ p1.toInt ≤ 65535)) := by exact ⟨rfl, by omega⟩
    exact vx_throw0 (names := ["java/lang/RuntimeException", "java/lang/Exception"]) (cls := "java/lang/IllegalArgumentException") (ik := 32) (ic := 34) (A := A) hx hb hlt hown (by decide) (by decide) (hts (.classLink RX8 32 "java/lang/IllegalArgumentException") (by decide +kernel)) (hts (.initialized "java/lang/IllegalArgumentException") (by decide +kernel)) (vx_hat (fun w h => hts w (List.mem_cons_of_mem _ (List.mem_append_right _ h))) (by decide +kernel) (vx_c (va_Nw.use rfl hcI) (vx_c (va_Nw.use rfl hd1) (vx_c (va_Nw.use rfl hd2) (vx_c (va_Nw.use rfl hd3) vx_n))))) (by decide +kernel) hZU hZN hS (by rw [hml]; exact hl.1) dX8_set_17 dX8_set_20 dX8_set_21 dX8_set_24 (fun x h => (htab x h).elim) (Nat.le_of_ble_eq_true rfl) (Nat.le_of_ble_eq_true rfl) (Nat.le_of_ble_eq_true rfl) (Nat.le_of_ble_eq_true rfl) hlocks (fun t hal hz hk => ⟨(), trivial, hpx9, Nat.le_trans hS.1 hz, fun q h1 h2 => (hk q (Nat.lt_of_lt_of_le h1 hS.1)).trans (hS.2.1 q h1 h2)⟩) hS.2.2 (Nat.le_of_ble_eq_true rfl) (Nat.le_of_ble_eq_true rfl)
  · have c1 := fz_nlt.mp c1
    have kk0 : (0 : Int32).toInt = 0 := by decide
    refine lv_iload_n hx hb dX8_set_4 rfl (lv_at hl 1 rfl) ?_
    refine lv_bipush (v := 7) hx hb dX8_set_5 (by decide) ?_
    refine lv_icmp_gt (tgt := 17) hx hb dX8_set_7 (by decide) (fun c2 => ?_) (fun c2 => ?_)
    · have c2 := fz_lt.mp c2
      have kk7 : (7 : Int32).toInt = 7 := by decide
      have hpx9 : "java/lang/IllegalArgumentException" = "java/lang/IllegalArgumentException" ∧ ¬ ((0 ≤ p0.toInt ∧ p0.toInt ≤ 7) ∧ (0 ≤ p1.toInt ∧ p1.toInt ≤ 65535)) := by exact ⟨rfl, by omega⟩
      exact vx_throw0 (names := ["java/lang/RuntimeException", "java/lang/Exception"]) (cls := "java/lang/IllegalArgumentException") (ik := 32) (ic := 34) (A := A) hx hb hlt hown (by decide) (by decide) (hts (.classLink RX8 32 "java/lang/IllegalArgumentException") (by decide +kernel)) (hts (.initialized "java/lang/IllegalArgumentException") (by decide +kernel)) (vx_hat (fun w h => hts w (List.mem_cons_of_mem _ (List.mem_append_right _ h))) (by decide +kernel) (vx_c (va_Nw.use rfl hcI) (vx_c (va_Nw.use rfl hd1) (vx_c (va_Nw.use rfl hd2) (vx_c (va_Nw.use rfl hd3) vx_n))))) (by decide +kernel) hZU hZN hS (by rw [hml]; exact hl.1) dX8_set_17 dX8_set_20 dX8_set_21 dX8_set_24 (fun x h => (htab x h).elim) (Nat.le_of_ble_eq_true rfl) (Nat.le_of_ble_eq_true rfl) (Nat.le_of_ble_eq_true rfl) (Nat.le_of_ble_eq_true rfl) hlocks (fun t hal hz hk => ⟨(), trivial, hpx9, Nat.le_trans hS.1 hz, fun q h1 h2 => (hk q (Nat.lt_of_lt_of_le h1 hS.1)).trans (hS.2.1 q h1 h2)⟩) hS.2.2 (Nat.le_of_ble_eq_true rfl) (Nat.le_of_ble_eq_true rfl)
    · have c2 := fz_nlt.mp c2
      have kk7 : (7 : Int32).toInt = 7 := by decide
      refine lv_iload_n hx hb dX8_set_10 rfl (lv_at hl 2 rfl) ?_
      have hPc := hP.sub (ws' := []) [] rfl
      have hDc := hD.sub (ws' := []) [] (by decide) rfl
      have hKc := hK.sub (tys' := []) [] rfl
      have hFc := va_free (wc := []) hD hS hA [] rfl
      refine va_calli (va_runS (As := [.int p1]) (rest := []) ⟨hx, hb, hml, hown, hts⟩ (c_isWord l dC dI p1 H.size) (va_cwS 1 hts gX8_set_X8_isWord rfl rfl rfl (by decide +kernel) ⟨Nat.le_of_ble_eq_true rfl, Nat.le_of_ble_eq_true rfl⟩) ⟨fun a U g mk q => by obtain ⟨q0, q1, qP, qK, qD⟩ := q; exact ⟨q0, q1, qP, va_K.moved (u := U) (U := U.calling g mk a) (Vm.Alike.refl U.vm) qK, qD⟩, fun U hU hW => ⟨rfl, by rw [hU], by rw [hU]; exact hPc, va_K.moved hW.alike hKc, hDc.weaken (fun _ _ _ _ => trivial)⟩⟩ rfl rfl hl.1 rfl (lv_room (Nat.le_of_ble_eq_true rfl)) dX8_set_11 ⟨Nat.le_of_ble_eq_true rfl, Nat.le_of_ble_eq_true rfl⟩) hS (fun q _ h => hFc q h) hFc (fun r3 u4 t H1 locs ht hvm hw hB hz1 hk1 hS => ?_)
      obtain ⟨hP1, hK1, hD1⟩ := hB
      rw [ht] at hP1
      have hK1 := va_K.moved hvm.symm hK1
      try dsimp only at hw
      obtain ⟨hP, hD⟩ := va_join (wr := [(h0, .inr (7, [.ref oB, .ref oP])), (oP, .inr (5, [.ref ar, .ref oB, .ref oS, .int 0, .int 2, .int 0, .int 0, .int 0, .int 0])), (oS, .inr (6, [.int 0, .int (-1)])), (ar, .inl (tr, 8, .inl (fun _ => 0)))]) (w1 := []) hP hD [] [0, 1, 2, 3] rfl rfl (by decide) (by decide) hk1 hFc hP1 hD1
      have hK := (hK.sub (tys' := [(tr, .int)]) [0] rfl).app hK1
      generalize H1 = H at hP hS ⊢
      have hP : va_P (dC, dI) vwCl [(h0, .inr (7, [.ref oB, .ref oP])), (oP, .inr (5, [.ref ar, .ref oB, .ref oS, .int 0, .int 2, .int 0, .int 0, .int 0, .int 0])), (oS, .inr (6, [.int 0, .int (-1)])), (ar, .inl (tr, 8, .inl (fun _ => 0)))] H := hP
      have hD : va_D A [(h0, .inr (7, [.ref oB, .ref oP])), (oP, .inr (5, [.ref ar, .ref oB, .ref oS, .int 0, .int 2, .int 0, .int 0, .int 0, .int 0])), (oS, .inr (6, [.int 0, .int (-1)])), (ar, .inl (tr, 8, .inl (fun _ => 0)))] := hD
      have hK : va_K (dC, dI) vwCl [(tr, .int)] s := hK
      rcases hw with ⟨rfl, _, _⟩ | ⟨rfl, _⟩
      · skip
        refine lv_if_ne (tgt := 25) hx hb dX8_set_14 (by decide) (fun c5 => ?_) (fun c5 => ?_)
        · skip
          refine lv_iload_n hx hb dX8_set_25 rfl (lv_at hl 1 rfl) ?_
          refine lv_bipush (v := 6) hx hb dX8_set_26 (by decide) ?_
          refine lv_icmp_ne (tgt := 52) hx hb dX8_set_28 (by decide) (fun c6 => ?_) (fun c6 => ?_)
          · have c6 := fz_ne.mp c6
            have kk6 : (6 : Int32).toInt = 6 := by decide
            refine lv_aload_n hx hb dX8_set_52 rfl (lv_at hl 0 rfl) ?_
            refine va_get (D := (dC, dI)) (ci := 7) (v := .ref oP) (C := RX8) (T := TX8) (N := 2) hx hb hts (by decide +kernel) hown hK hP 0 rfl rfl 1 (by decide) (hts (.fieldLink RX8 21 "UnibusMachine" "processor" "LUnibusMachine$Processor;") (by decide +kernel)) (fun _ h9 => h9) rfl dX8_set_53 ?_
            refine va_get (D := (dC, dI)) (ci := 5) (v := .ref ar) (C := RX6) (T := TX6) (N := 9) hx hb hts (by decide +kernel) hown hK hP 1 rfl rfl 0 (by decide) (hts (.fieldLink RX8 47 "UnibusMachine$Processor" "registers" "[I") (by decide +kernel)) (fun _ h9 => h9) rfl dX8_set_56 ?_
            refine lv_iload_n hx hb dX8_set_59 rfl (lv_at hl 1 rfl) ?_
            refine lv_iload_n hx hb dX8_set_60 rfl (lv_at hl 2 rfl) ?_
            refine va_iast (D := (dC, dI)) hx hb hK hP hD hS 3 0 rfl rfl (vp_in_iff.mpr (by constructor <;> omega)) dX8_set_61 (fun H locs hP hD hS => ?_)
            have hP : va_P (dC, dI) vwCl [(h0, .inr (7, [.ref oB, .ref oP])), (oP, .inr (5, [.ref ar, .ref oB, .ref oS, .int 0, .int 2, .int 0, .int 0, .int 0, .int 0])), (oS, .inr (6, [.int 0, .int (-1)])), (ar, .inl (tr, 8, .inl (upd (fun _ => 0) (p0 : Int32).toNatClampNeg p1)))] H := hP
            have hD : va_D A [(h0, .inr (7, [.ref oB, .ref oP])), (oP, .inr (5, [.ref ar, .ref oB, .ref oS, .int 0, .int 2, .int 0, .int 0, .int 0, .int 0])), (oS, .inr (6, [.int 0, .int (-1)])), (ar, .inl (tr, 8, .inl (upd (fun _ => 0) (p0 : Int32).toNatClampNeg p1)))] := hD
            have hP9 := hP.sub (ws' := []) [] rfl
            have hD9 := hD.sub (ws' := []) [] (by decide) rfl
            have hK9 := hK.sub (tys' := []) [] rfl
            refine vx_ret ?_
            refine W.widen (k := 1) (n := 6) (Nat.le_of_ble_eq_true rfl) (Nat.le_of_ble_eq_true rfl) ?_
            exact W.vret hx hb hr (fun t ht hW => ⟨⟨(), rfl, (by omega), by rw [ht]; exact hP9, va_K.moved hW.alike hK9, hD9⟩, hS.F ht⟩) hS.2.2 dX8_set_62
          · have c6 := fz_eq.mp c6
            have kk6 : (6 : Int32).toInt = 6 := by decide
            refine lv_aload_n hx hb dX8_set_31 rfl (lv_at hl 0 rfl) ?_
            refine va_get (D := (dC, dI)) (ci := 7) (v := .ref oP) (C := RX8) (T := TX8) (N := 2) hx hb hts (by decide +kernel) hown hK hP 0 rfl rfl 1 (by decide) (hts (.fieldLink RX8 21 "UnibusMachine" "processor" "LUnibusMachine$Processor;") (by decide +kernel)) (fun _ h9 => h9) rfl dX8_set_32 ?_
            have hPc := hP.sub (ws' := [(oP, .inr (5, [.ref ar, .ref oB, .ref oS, .int 0, .int 2, .int 0, .int 0, .int 0, .int 0])), (oS, .inr (6, [.int 0, .int (-1)]))]) [1, 2] rfl
            have hDc := hD.sub (ws' := [(oP, .inr (5, [.ref ar, .ref oB, .ref oS, .int 0, .int 2, .int 0, .int 0, .int 0, .int 0])), (oS, .inr (6, [.int 0, .int (-1)]))]) [1, 2] (by decide) rfl
            have hKc := hK.sub (tys' := []) [] rfl
            have hFc := va_free (wc := [(oP, .inr (5, [.ref ar, .ref oB, .ref oS, .int 0, .int 2, .int 0, .int 0, .int 0, .int 0])), (oS, .inr (6, [.int 0, .int (-1)]))]) hD hS hA [1, 2] rfl
            refine va_calli (va_runV (As := []) (rest := []) ⟨hx, hb, hml, hown, hts⟩ (c_mode l dC dI oP ar oB oS H.size) (cwV 0 hts gX8_set_X6_mode rfl rfl rfl (by decide +kernel) ⟨Nat.le_of_ble_eq_true rfl, Nat.le_of_ble_eq_true rfl⟩) ⟨fun a U g mk q => by obtain ⟨q0, q1, qP, qK, qD⟩ := q; exact ⟨q0, q1, qP, va_K.moved (u := U) (U := U.calling g mk a) (Vm.Alike.refl U.vm) qK, qD⟩, va_recv hKc hPc (ci := 5) (q0 := 0) rfl rfl, fun U hU hW => ⟨rfl, by rw [hU], by rw [hU]; exact hPc, va_K.moved hW.alike hKc, hDc.weaken (fun _ _ _ _ => trivial)⟩⟩ rfl rfl hl.1 rfl (lv_room (Nat.le_of_ble_eq_true rfl)) dX8_set_35 ⟨Nat.le_of_ble_eq_true rfl, Nat.le_of_ble_eq_true rfl⟩) hS (fun q _ h => hFc q h) hFc (fun r7 u8 t H1 locs ht hvm hw hB hz1 hk1 hS => ?_)
            obtain ⟨hP1, hK1, hD1⟩ := hB
            rw [ht] at hP1
            have hK1 := va_K.moved hvm.symm hK1
            try dsimp only at hw
            obtain ⟨hP, hD⟩ := va_join (wr := [(h0, .inr (7, [.ref oB, .ref oP])), (ar, .inl (tr, 8, .inl (fun _ => 0)))]) (w1 := [(oP, .inr (5, [.ref ar, .ref oB, .ref oS, .int 0, .int 2, .int 0, .int 0, .int 0, .int 0])), (oS, .inr (6, [.int 0, .int (-1)]))]) hP hD [1, 2] [0, 3] rfl rfl (by decide) (by decide) hk1 hFc hP1 hD1
            have hK := (hK.sub (tys' := [(tr, .int)]) [0] rfl).app hK1
            generalize H1 = H at hP hS ⊢
            have hP : va_P (dC, dI) vwCl [(h0, .inr (7, [.ref oB, .ref oP])), (ar, .inl (tr, 8, .inl (fun _ => 0))), (oP, .inr (5, [.ref ar, .ref oB, .ref oS, .int 0, .int 2, .int 0, .int 0, .int 0, .int 0])), (oS, .inr (6, [.int 0, .int (-1)]))] H := hP
            have hD : va_D A [(h0, .inr (7, [.ref oB, .ref oP])), (ar, .inl (tr, 8, .inl (fun _ => 0))), (oP, .inr (5, [.ref ar, .ref oB, .ref oS, .int 0, .int 2, .int 0, .int 0, .int 0, .int 0])), (oS, .inr (6, [.int 0, .int (-1)]))] := hD
            have hK : va_K (dC, dI) vwCl [(tr, .int)] s := hK
            obtain rfl := hw
            have hP : va_P (dC, dI) vwCl [(h0, .inr (7, [.ref oB, .ref oP])), (ar, .inl (tr, 8, .inl (fun _ => 0))), (oP, .inr (5, [.ref ar, .ref oB, .ref oS, .int 0, .int 2, .int 0, .int 0, .int 0, .int 0])), (oS, .inr (6, [.int 0, .int (-1)]))] H := hP
            have hD : va_D A [(h0, .inr (7, [.ref oB, .ref oP])), (ar, .inl (tr, 8, .inl (fun _ => 0))), (oP, .inr (5, [.ref ar, .ref oB, .ref oS, .int 0, .int 2, .int 0, .int 0, .int 0, .int 0])), (oS, .inr (6, [.int 0, .int (-1)]))] := hD
            refine lv_if_eq (tgt := 52) hx hb dX8_set_38 (by decide) (fun c9 => ?_) (fun c9 => ?_)
            · skip
              refine lv_aload_n hx hb dX8_set_52 rfl (lv_at hl 0 rfl) ?_
              refine va_get (D := (dC, dI)) (ci := 7) (v := .ref oP) (C := RX8) (T := TX8) (N := 2) hx hb hts (by decide +kernel) hown hK hP 0 rfl rfl 1 (by decide) (hts (.fieldLink RX8 21 "UnibusMachine" "processor" "LUnibusMachine$Processor;") (by decide +kernel)) (fun _ h9 => h9) rfl dX8_set_53 ?_
              refine va_get (D := (dC, dI)) (ci := 5) (v := .ref ar) (C := RX6) (T := TX6) (N := 9) hx hb hts (by decide +kernel) hown hK hP 2 rfl rfl 0 (by decide) (hts (.fieldLink RX8 47 "UnibusMachine$Processor" "registers" "[I") (by decide +kernel)) (fun _ h9 => h9) rfl dX8_set_56 ?_
              refine lv_iload_n hx hb dX8_set_59 rfl (lv_at hl 1 rfl) ?_
              refine lv_iload_n hx hb dX8_set_60 rfl (lv_at hl 2 rfl) ?_
              refine va_iast (D := (dC, dI)) hx hb hK hP hD hS 1 0 rfl rfl (vp_in_iff.mpr (by constructor <;> omega)) dX8_set_61 (fun H locs hP hD hS => ?_)
              have hP : va_P (dC, dI) vwCl [(h0, .inr (7, [.ref oB, .ref oP])), (ar, .inl (tr, 8, .inl (upd (fun _ => 0) (p0 : Int32).toNatClampNeg p1))), (oP, .inr (5, [.ref ar, .ref oB, .ref oS, .int 0, .int 2, .int 0, .int 0, .int 0, .int 0])), (oS, .inr (6, [.int 0, .int (-1)]))] H := hP
              have hD : va_D A [(h0, .inr (7, [.ref oB, .ref oP])), (ar, .inl (tr, 8, .inl (upd (fun _ => 0) (p0 : Int32).toNatClampNeg p1))), (oP, .inr (5, [.ref ar, .ref oB, .ref oS, .int 0, .int 2, .int 0, .int 0, .int 0, .int 0])), (oS, .inr (6, [.int 0, .int (-1)]))] := hD
              have hP9 := hP.sub (ws' := []) [] rfl
              have hD9 := hD.sub (ws' := []) [] (by decide) rfl
              have hK9 := hK.sub (tys' := []) [] rfl
              refine vx_ret ?_
              refine W.widen (k := 1) (n := 6) (Nat.le_of_ble_eq_true rfl) (Nat.le_of_ble_eq_true rfl) ?_
              exact W.vret hx hb hr (fun t ht hW => ⟨⟨(), rfl, (by omega), by rw [ht]; exact hP9, va_K.moved hW.alike hK9, hD9⟩, hS.F ht⟩) hS.2.2 dX8_set_62
            · exact absurd c9 (by decide)
        · exact absurd c5 (by decide)
      · skip
        refine lv_if_ne (tgt := 25) hx hb dX8_set_14 (by decide) (fun c10 => ?_) (fun c10 => ?_)
        · exact absurd c10 (by decide)
        · skip
          have hpx9 : "java/lang/IllegalArgumentException" = "java/lang/IllegalArgumentException" ∧ ¬ ((0 ≤ p0.toInt ∧ p0.toInt ≤ 7) ∧ (0 ≤ p1.toInt ∧ p1.toInt ≤ 65535)) := by exact ⟨rfl, by omega⟩
          exact vx_throw0 (names := ["java/lang/RuntimeException", "java/lang/Exception"]) (cls := "java/lang/IllegalArgumentException") (ik := 32) (ic := 34) (A := A) hx hb hlt hown (by decide) (by decide) (hts (.classLink RX8 32 "java/lang/IllegalArgumentException") (by decide +kernel)) (hts (.initialized "java/lang/IllegalArgumentException") (by decide +kernel)) (vx_hat (fun w h => hts w (List.mem_cons_of_mem _ (List.mem_append_right _ h))) (by decide +kernel) (vx_c (va_Nw.use rfl hcI) (vx_c (va_Nw.use rfl hd1) (vx_c (va_Nw.use rfl hd2) (vx_c (va_Nw.use rfl hd3) vx_n))))) (by decide +kernel) hZU hZN hS (by rw [hml]; exact hl.1) dX8_set_17 dX8_set_20 dX8_set_21 dX8_set_24 (fun x h => (htab x h).elim) (Nat.le_of_ble_eq_true rfl) (Nat.le_of_ble_eq_true rfl) (Nat.le_of_ble_eq_true rfl) (Nat.le_of_ble_eq_true rfl) hlocks (fun t hal hz hk => ⟨(), trivial, hpx9, Nat.le_trans hS.1 hz, fun q h1 h2 => (hk q (Nat.lt_of_lt_of_le h1 hS.1)).trans (hS.2.1 q h1 h2)⟩) hS.2.2 (Nat.le_of_ble_eq_true rfl) (Nat.le_of_ble_eq_true rfl)
set_option maxHeartbeats 4000000 in
set_option maxRecDepth 100000 in
theorem c_register (l : Launch) (dC : Nat → ClassId) (dI : Nat → Nat → Nat) (h0 : Nat) (oB : Nat) (oP : Nat) (am : Nat) (oM : Nat) (oS : Nat) (oK : Nat) (oL : Nat) (oD : Nat) (ar : Nat) (tr : ClassId) (p0 : Int32) (sz : Nat) (hlt : l.stackTraces = false) : vx_Met l yX8_register wsX8_register ({ frames := 6, cells := 1, slots := 6, locals := 81 } : Room) (va_Pc [.ref h0, .int p0] (fun U => U.heap.size = sz ∧ va_P (dC, dI) vwCl [(h0, .inr (7, [.ref oB, .ref oP])), (oB, .inr (0, [.ref am, .ref oM, .ref oS, .ref oK, .ref oL, .ref oD])), (oS, .inr (6, [.int 0, .int (-1)])), (oP, .inr (5, [.ref ar, .ref oB, .ref oS, .int 0, .int 2, .int 0, .int 0, .int 0, .int 0])), (ar, .inl (tr, 8, .inl (fun _ => 0)))] U.heap ∧ va_K (dC, dI) vwCl [(tr, .int)] U ∧ va_D (fun _ => True) [(h0, .inr (7, [.ref oB, .ref oP])), (oB, .inr (0, [.ref am, .ref oM, .ref oS, .ref oK, .ref oL, .ref oD])), (oS, .inr (6, [.int 0, .int (-1)])), (oP, .inr (5, [.ref ar, .ref oB, .ref oS, .int 0, .int 2, .int 0, .int 0, .int 0, .int 0])), (ar, .inl (tr, 8, .inl (fun _ => 0)))] ∧ vx_Zq Bundle.tN "UNASSIGNED_STACK" Bundle.steD (va_A [(h0, .inr (7, [.ref oB, .ref oP])), (oB, .inr (0, [.ref am, .ref oM, .ref oS, .ref oK, .ref oL, .ref oD])), (oS, .inr (6, [.int 0, .int (-1)])), (oP, .inr (5, [.ref ar, .ref oB, .ref oS, .int 0, .int 2, .int 0, .int 0, .int 0, .int 0])), (ar, .inl (tr, 8, .inl (fun _ => 0)))] sz) U U.heap ∧ vx_Zq Bundle.tN "SUPPRESSED_SENTINEL" Bundle.listD (va_A [(h0, .inr (7, [.ref oB, .ref oP])), (oB, .inr (0, [.ref am, .ref oM, .ref oS, .ref oK, .ref oL, .ref oD])), (oS, .inr (6, [.int 0, .int (-1)])), (oP, .inr (5, [.ref ar, .ref oB, .ref oS, .int 0, .int 2, .int 0, .int 0, .int 0, .int 0])), (ar, .inl (tr, 8, .inl (fun _ => 0)))] sz) U U.heap ∧ va_Nw (.declares (Bundle.init0 "java/lang/RuntimeException")) U ∧ va_Nw (.declares (Bundle.init0 "java/lang/Exception")) U ∧ va_Nw (.declares (Bundle.init0 Bundle.tN)) U ∧ va_Nw (.castable "java/lang/IllegalArgumentException" "java/lang/IllegalArgumentException") U)) (va_Qi (fun (r : Int32) (u : Unit) => r = 0 ∧ 0 ≤ p0.toInt ∧ p0.toInt ≤ 9) (fun (u : Unit) (t : State) => va_P (dC, dI) vwCl [] t.heap ∧ va_K (dC, dI) vwCl [] t ∧ va_D (va_A [(h0, .inr (7, [.ref oB, .ref oP])), (oB, .inr (0, [.ref am, .ref oM, .ref oS, .ref oK, .ref oL, .ref oD])), (oS, .inr (6, [.int 0, .int (-1)])), (oP, .inr (5, [.ref ar, .ref oB, .ref oS, .int 0, .int 2, .int 0, .int 0, .int 0, .int 0])), (ar, .inl (tr, 8, .inl (fun _ => 0)))] sz) []) (va_A [(h0, .inr (7, [.ref oB, .ref oP])), (oB, .inr (0, [.ref am, .ref oM, .ref oS, .ref oK, .ref oL, .ref oD])), (oS, .inr (6, [.int 0, .int (-1)])), (oP, .inr (5, [.ref ar, .ref oB, .ref oS, .int 0, .int 2, .int 0, .int 0, .int 0, .int 0])), (ar, .inl (tr, 8, .inl (fun _ => 0)))] sz)) (vx_X (fun _ : Unit => True) (fun (E : String) (_ : Unit) (_ : State) => E = "java/lang/IllegalArgumentException" ∧ ¬ (0 ≤ p0.toInt ∧ p0.toInt ≤ 9)) (va_A [(h0, .inr (7, [.ref oB, .ref oP])), (oB, .inr (0, [.ref am, .ref oM, .ref oS, .ref oK, .ref oL, .ref oD])), (oS, .inr (6, [.int 0, .int (-1)])), (oP, .inr (5, [.ref ar, .ref oB, .ref oS, .int 0, .int 2, .int 0, .int 0, .int 0, .int 0])), (ar, .inl (tr, 8, .inl (fun _ => 0)))] sz)) 1 6 (va_A [(h0, .inr (7, [.ref oB, .ref oP])), (oB, .inr (0, [.ref am, .ref oM, .ref oS, .ref oK, .ref oL, .ref oD])), (oS, .inr (6, [.int 0, .int (-1)])), (oP, .inr (5, [.ref ar, .ref oB, .ref oS, .int 0, .int 2, .int 0, .int 0, .int 0, .int 0])), (ar, .inl (tr, 8, .inl (fun _ => 0)))] sz) := by
  refine vx_ofW (cc := cX8_register) (maxL := 2) (ret := (some .int)) (by decide) rfl ?_
  intro p e s m args below meth c s₁ B hml htab hv
  obtain ⟨rfl, hsz, hP, hK, hD0, hZU, hZN, hd1, hd2, hd3, hcI⟩ := hv
  have hx := B.exec
  have hb := B.bytes
  have hr := B.returns
  have hts := atoms_spec (ws := wsX8_register) B.pre
  have hown : s.vm.findClass RX8 = some m.cls := findClass_of_methodNamed B.named
  have hlocks := B.notSynchronized
  subst hsz
  have hD := hD0.self (sz := s.heap.size)
  generalize hAe : va_A [(h0, .inr (7, [.ref oB, .ref oP])), (oB, .inr (0, [.ref am, .ref oM, .ref oS, .ref oK, .ref oL, .ref oD])), (oS, .inr (6, [.int 0, .int (-1)])), (oP, .inr (5, [.ref ar, .ref oB, .ref oS, .int 0, .int 2, .int 0, .int 0, .int 0, .int 0])), (ar, .inl (tr, 8, .inl (fun _ => 0)))] s.heap.size = A at hD hZU hZN ⊢
  have hA : ∀ q : Nat, s.heap.size ≤ q → A q := fun q h => by rw [← hAe]; exact Or.inr h
  have hS0 : ∀ G : Heap, s.heap = G → va_S A s.heap G [] := fun G h => by subst h; exact va_S.rf
  generalize hHe : s.heap = H at hP ⊢
  have hS := hS0 H hHe
  have hP : va_P (dC, dI) vwCl [(h0, .inr (7, [.ref oB, .ref oP])), (oB, .inr (0, [.ref am, .ref oM, .ref oS, .ref oK, .ref oL, .ref oD])), (oS, .inr (6, [.int 0, .int (-1)])), (oP, .inr (5, [.ref ar, .ref oB, .ref oS, .int 0, .int 2, .int 0, .int 0, .int 0, .int 0])), (ar, .inl (tr, 8, .inl (fun _ => 0)))] H := hP
  have hD : va_D A [(h0, .inr (7, [.ref oB, .ref oP])), (oB, .inr (0, [.ref am, .ref oM, .ref oS, .ref oK, .ref oL, .ref oD])), (oS, .inr (6, [.int 0, .int (-1)])), (oP, .inr (5, [.ref ar, .ref oB, .ref oS, .int 0, .int 2, .int 0, .int 0, .int 0, .int 0])), (ar, .inl (tr, 8, .inl (fun _ => 0)))] := hD
  have hK : va_K (dC, dI) vwCl [(tr, .int)] s := hK
  have hl := lv_entry ([.ref h0, .int p0]) (n := 2) (Nat.le_of_ble_eq_true rfl)
  rw [lg_entry_eq]
  generalize (lg_sl ([.ref h0, .int p0]) ++ List.replicate (2 - (lg_sl ([.ref h0, .int p0])).length) Slot.unset).toArray = ls at hl ⊢
  have hl : lv_has ls 2 [(0, .ref h0), (1, .int p0)] := hl
  have kk0 : (0 : Int32).toInt = 0 := by decide
  have kk8 : (8 : Int32).toInt = 8 := by decide
  have kk9 : (9 : Int32).toInt = 9 := by decide
  refine lv_iload_n hx hb dX8_register_0 rfl (lv_at hl 1 rfl) ?_
  refine lv_if_lt (tgt := 10) hx hb dX8_register_1 (by decide) (fun c1 => ?_) (fun c1 => ?_)
  · have c1 := fz_lt.mp c1
    have kk0 : (0 : Int32).toInt = 0 := by decide
    have hpx9 : "java/lang/IllegalArgumentException" = "java/lang/IllegalArgumentException" ∧ ¬ (0 ≤ p0.toInt ∧ p0.toInt ≤ 9) := by exact ⟨rfl, by omega⟩
    exact vx_throw0 (names := ["java/lang/RuntimeException", "java/lang/Exception"]) (cls := "java/lang/IllegalArgumentException") (ik := 32) (ic := 34) (A := A) hx hb hlt hown (by decide) (by decide) (hts (.classLink RX8 32 "java/lang/IllegalArgumentException") (by decide +kernel)) (hts (.initialized "java/lang/IllegalArgumentException") (by decide +kernel)) (vx_hat (fun w h => hts w (List.mem_cons_of_mem _ (List.mem_append_right _ h))) (by decide +kernel) (vx_c (va_Nw.use rfl hcI) (vx_c (va_Nw.use rfl hd1) (vx_c (va_Nw.use rfl hd2) (vx_c (va_Nw.use rfl hd3) vx_n))))) (by decide +kernel) hZU hZN hS (by rw [hml]; exact hl.1) dX8_register_10 dX8_register_13 dX8_register_14 dX8_register_17 (fun x h => (htab x h).elim) (Nat.le_of_ble_eq_true rfl) (Nat.le_of_ble_eq_true rfl) (Nat.le_of_ble_eq_true rfl) (Nat.le_of_ble_eq_true rfl) hlocks (fun t hal hz hk => ⟨(), trivial, hpx9, Nat.le_trans hS.1 hz, fun q h1 h2 => (hk q (Nat.lt_of_lt_of_le h1 hS.1)).trans (hS.2.1 q h1 h2)⟩) hS.2.2 (Nat.le_of_ble_eq_true rfl) (Nat.le_of_ble_eq_true rfl)
  · have c1 := fz_nlt.mp c1
    have kk0 : (0 : Int32).toInt = 0 := by decide
    refine lv_iload_n hx hb dX8_register_4 rfl (lv_at hl 1 rfl) ?_
    refine lv_bipush (v := 9) hx hb dX8_register_5 (by decide) ?_
    refine lv_icmp_le (tgt := 18) hx hb dX8_register_7 (by decide) (fun c2 => ?_) (fun c2 => ?_)
    · have c2 := fz_le.mp c2
      have kk9 : (9 : Int32).toInt = 9 := by decide
      refine lv_iload_n hx hb dX8_register_18 rfl (lv_at hl 1 rfl) ?_
      refine lv_bipush (v := 8) hx hb dX8_register_19 (by decide) ?_
      refine lv_icmp_ne (tgt := 35) hx hb dX8_register_21 (by decide) (fun c3 => ?_) (fun c3 => ?_)
      · have c3 := fz_ne.mp c3
        have kk8 : (8 : Int32).toInt = 8 := by decide
        refine lv_iload_n hx hb dX8_register_35 rfl (lv_at hl 1 rfl) ?_
        refine lv_bipush (v := 9) hx hb dX8_register_36 (by decide) ?_
        refine lv_icmp_ne (tgt := 51) hx hb dX8_register_38 (by decide) (fun c4 => ?_) (fun c4 => ?_)
        · have c4 := fz_ne.mp c4
          have kk9 : (9 : Int32).toInt = 9 := by decide
          refine lv_aload_n hx hb dX8_register_51 rfl (lv_at hl 0 rfl) ?_
          refine va_get (D := (dC, dI)) (ci := 7) (v := .ref oP) (C := RX8) (T := TX8) (N := 2) hx hb hts (by decide +kernel) hown hK hP 0 rfl rfl 1 (by decide) (hts (.fieldLink RX8 21 "UnibusMachine" "processor" "LUnibusMachine$Processor;") (by decide +kernel)) (fun _ h9 => h9) rfl dX8_register_52 ?_
          refine va_get (D := (dC, dI)) (ci := 5) (v := .ref ar) (C := RX6) (T := TX6) (N := 9) hx hb hts (by decide +kernel) hown hK hP 3 rfl rfl 0 (by decide) (hts (.fieldLink RX8 47 "UnibusMachine$Processor" "registers" "[I") (by decide +kernel)) (fun _ h9 => h9) rfl dX8_register_55 ?_
          refine lv_iload_n hx hb dX8_register_58 rfl (lv_at hl 1 rfl) ?_
          refine va_iald (D := (dC, dI)) hx hb hK hP 4 0 rfl rfl (vp_in_iff.mpr (by constructor <;> omega)) dX8_register_59 ?_
          have hP9 := hP.sub (ws' := []) [] rfl
          have hD9 := hD.sub (ws' := []) [] (by decide) rfl
          have hK9 := hK.sub (tys' := []) [] rfl
          refine vx_ret ?_
          refine W.widen (k := 1) (n := 6) (Nat.le_of_ble_eq_true rfl) (Nat.le_of_ble_eq_true rfl) ?_
          exact W.iret (v := 0) hx hb hr (fun t ht hW => ⟨⟨0, (), rfl, ⟨rfl, by omega, by omega⟩, by rw [ht]; exact hP9, va_K.moved hW.alike hK9, hD9⟩, hS.F ht⟩) hS.2.2 dX8_register_60
        · have c4 := fz_eq.mp c4
          have kk9 : (9 : Int32).toInt = 9 := by decide
          refine lv_aload_n hx hb dX8_register_41 rfl (lv_at hl 0 rfl) ?_
          refine va_get (D := (dC, dI)) (ci := 7) (v := .ref oP) (C := RX8) (T := TX8) (N := 2) hx hb hts (by decide +kernel) hown hK hP 0 rfl rfl 1 (by decide) (hts (.fieldLink RX8 21 "UnibusMachine" "processor" "LUnibusMachine$Processor;") (by decide +kernel)) (fun _ h9 => h9) rfl dX8_register_42 ?_
          refine va_get (D := (dC, dI)) (ci := 5) (v := .int 0) (C := RX6) (T := TX6) (N := 9) hx hb hts (by decide +kernel) hown hK hP 3 rfl rfl 3 (by decide) (hts (.fieldLink RX8 43 "UnibusMachine$Processor" "otherStack" "I") (by decide +kernel)) (fun _ h9 => h9) rfl dX8_register_45 ?_
          refine lv_goto (tgt := 60) hx hb dX8_register_48 (by decide) ?_
          have hP9 := hP.sub (ws' := []) [] rfl
          have hD9 := hD.sub (ws' := []) [] (by decide) rfl
          have hK9 := hK.sub (tys' := []) [] rfl
          refine vx_ret ?_
          refine W.widen (k := 1) (n := 6) (Nat.le_of_ble_eq_true rfl) (Nat.le_of_ble_eq_true rfl) ?_
          exact W.iret (v := 0) hx hb hr (fun t ht hW => ⟨⟨0, (), rfl, ⟨rfl, by omega, by omega⟩, by rw [ht]; exact hP9, va_K.moved hW.alike hK9, hD9⟩, hS.F ht⟩) hS.2.2 dX8_register_60
      · have c3 := fz_eq.mp c3
        have kk8 : (8 : Int32).toInt = 8 := by decide
        refine lv_aload_n hx hb dX8_register_24 rfl (lv_at hl 0 rfl) ?_
        refine va_get (D := (dC, dI)) (ci := 7) (v := .ref oB) (C := RX8) (T := TX8) (N := 2) hx hb hts (by decide +kernel) hown hK hP 0 rfl rfl 0 (by decide) (hts (.fieldLink RX8 10 "UnibusMachine" "bus" "LUnibusMachine$Bus;") (by decide +kernel)) (fun _ h9 => h9) rfl dX8_register_25 ?_
        refine va_get (D := (dC, dI)) (ci := 0) (v := .ref oS) (C := RX0) (T := TX0) (N := 6) hx hb hts (by decide +kernel) hown hK hP 1 rfl rfl 2 (by decide) (hts (.fieldLink RX8 50 "UnibusMachine$Bus" "status" "LUnibusMachine$Status;") (by decide +kernel)) (fun _ h9 => h9) rfl dX8_register_28 ?_
        refine va_get (D := (dC, dI)) (ci := 6) (v := .int 0) (C := RX7) (T := TX7) (N := 2) hx hb hts (by decide +kernel) hown hK hP 2 rfl rfl 0 (by decide) (hts (.fieldLink RX8 54 "UnibusMachine$Status" "now" "I") (by decide +kernel)) (fun _ h9 => h9) rfl dX8_register_31 ?_
        have hP9 := hP.sub (ws' := []) [] rfl
        have hD9 := hD.sub (ws' := []) [] (by decide) rfl
        have hK9 := hK.sub (tys' := []) [] rfl
        refine vx_ret ?_
        refine W.widen (k := 1) (n := 6) (Nat.le_of_ble_eq_true rfl) (Nat.le_of_ble_eq_true rfl) ?_
        exact W.iret (v := 0) hx hb hr (fun t ht hW => ⟨⟨0, (), rfl, ⟨rfl, by omega, by omega⟩, by rw [ht]; exact hP9, va_K.moved hW.alike hK9, hD9⟩, hS.F ht⟩) hS.2.2 dX8_register_34
    · have c2 := fz_nle.mp c2
      have kk9 : (9 : Int32).toInt = 9 := by decide
      have hpx9 : "java/lang/IllegalArgumentException" = "java/lang/IllegalArgumentException" ∧ ¬ (0 ≤ p0.toInt ∧ p0.toInt ≤ 9) := by exact ⟨rfl, by omega⟩
      exact vx_throw0 (names := ["java/lang/RuntimeException", "java/lang/Exception"]) (cls := "java/lang/IllegalArgumentException") (ik := 32) (ic := 34) (A := A) hx hb hlt hown (by decide) (by decide) (hts (.classLink RX8 32 "java/lang/IllegalArgumentException") (by decide +kernel)) (hts (.initialized "java/lang/IllegalArgumentException") (by decide +kernel)) (vx_hat (fun w h => hts w (List.mem_cons_of_mem _ (List.mem_append_right _ h))) (by decide +kernel) (vx_c (va_Nw.use rfl hcI) (vx_c (va_Nw.use rfl hd1) (vx_c (va_Nw.use rfl hd2) (vx_c (va_Nw.use rfl hd3) vx_n))))) (by decide +kernel) hZU hZN hS (by rw [hml]; exact hl.1) dX8_register_10 dX8_register_13 dX8_register_14 dX8_register_17 (fun x h => (htab x h).elim) (Nat.le_of_ble_eq_true rfl) (Nat.le_of_ble_eq_true rfl) (Nat.le_of_ble_eq_true rfl) (Nat.le_of_ble_eq_true rfl) hlocks (fun t hal hz hk => ⟨(), trivial, hpx9, Nat.le_trans hS.1 hz, fun q h1 h2 => (hk q (Nat.lt_of_lt_of_le h1 hS.1)).trans (hS.2.1 q h1 h2)⟩) hS.2.2 (Nat.le_of_ble_eq_true rfl) (Nat.le_of_ble_eq_true rfl)
set_option maxHeartbeats 4000000 in
set_option maxRecDepth 100000 in
theorem c_takeStatus (l : Launch) (dC : Nat → ClassId) (dI : Nat → Nat → Nat) (h0 : Nat) (ar : Nat) (oB : Nat) (oS : Nat) (sz : Nat) : Met l yX6_takeStatus wsX6_takeStatus ({ frames := 0, cells := 0, slots := 0, locals := 0 } : Room) (va_Pc [.ref h0, .int 224] (fun U => U.heap.size = sz ∧ va_P (dC, dI) vwCl [(h0, .inr (5, [.ref ar, .ref oB, .ref oS, .int 0, .int 2, .int 0, .int 0, .int 0, .int 0])), (oS, .inr (6, [.int 0, .int (-1)]))] U.heap ∧ va_K (dC, dI) vwCl [] U ∧ va_D (fun _ => True) [(h0, .inr (5, [.ref ar, .ref oB, .ref oS, .int 0, .int 2, .int 0, .int 0, .int 0, .int 0])), (oS, .inr (6, [.int 0, .int (-1)]))])) (va_Qv (fun (u : Unit) => True) (fun (u : Unit) (t : State) => va_P (dC, dI) vwCl [(h0, .inr (5, [.ref ar, .ref oB, .ref oS, .int 0, .int 2, .int 0, .int 0, .int 0, .int 0])), (oS, .inr (6, [.int 224, .int (-1)]))] t.heap ∧ va_K (dC, dI) vwCl [] t ∧ va_D (va_A [(h0, .inr (5, [.ref ar, .ref oB, .ref oS, .int 0, .int 2, .int 0, .int 0, .int 0, .int 0])), (oS, .inr (6, [.int 0, .int (-1)]))] sz) [(h0, .inr (5, [.ref ar, .ref oB, .ref oS, .int 0, .int 2, .int 0, .int 0, .int 0, .int 0])), (oS, .inr (6, [.int 224, .int (-1)]))]) (va_A [(h0, .inr (5, [.ref ar, .ref oB, .ref oS, .int 0, .int 2, .int 0, .int 0, .int 0, .int 0])), (oS, .inr (6, [.int 0, .int (-1)]))] sz)) 0 0 (va_A [(h0, .inr (5, [.ref ar, .ref oB, .ref oS, .int 0, .int 2, .int 0, .int 0, .int 0, .int 0])), (oS, .inr (6, [.int 0, .int (-1)]))] sz) := by
  refine Met.ofW (cc := cX6_takeStatus) (maxL := 3) (ret := none) (by decide) rfl ?_
  intro p e s m args below meth c s₁ B hml hv
  obtain ⟨rfl, hsz, hP, hK, hD0⟩ := hv
  have hx := B.exec
  have hb := B.bytes
  have hr := B.returns
  have hts := atoms_spec (ws := wsX6_takeStatus) B.pre
  have hown : s.vm.findClass RX6 = some m.cls := findClass_of_methodNamed B.named
  have hlocks := B.notSynchronized
  subst hsz
  have hD := hD0.self (sz := s.heap.size)
  generalize hAe : va_A [(h0, .inr (5, [.ref ar, .ref oB, .ref oS, .int 0, .int 2, .int 0, .int 0, .int 0, .int 0])), (oS, .inr (6, [.int 0, .int (-1)]))] s.heap.size = A at hD ⊢
  have hA : ∀ q : Nat, s.heap.size ≤ q → A q := fun q h => by rw [← hAe]; exact Or.inr h
  have hS0 : ∀ G : Heap, s.heap = G → va_S A s.heap G [] := fun G h => by subst h; exact va_S.rf
  generalize hHe : s.heap = H at hP ⊢
  have hS := hS0 H hHe
  have hP : va_P (dC, dI) vwCl [(h0, .inr (5, [.ref ar, .ref oB, .ref oS, .int 0, .int 2, .int 0, .int 0, .int 0, .int 0])), (oS, .inr (6, [.int 0, .int (-1)]))] H := hP
  have hD : va_D A [(h0, .inr (5, [.ref ar, .ref oB, .ref oS, .int 0, .int 2, .int 0, .int 0, .int 0, .int 0])), (oS, .inr (6, [.int 0, .int (-1)]))] := hD
  have hK : va_K (dC, dI) vwCl [] s := hK
  have hl := lv_entry ([.ref h0, .int 224]) (n := 3) (Nat.le_of_ble_eq_true rfl)
  rw [lg_entry_eq]
  generalize (lg_sl ([.ref h0, .int 224]) ++ List.replicate (3 - (lg_sl ([.ref h0, .int 224])).length) Slot.unset).toArray = ls at hl ⊢
  have hl : lv_has ls 3 [(0, .ref h0), (1, .int 224)] := hl
  refine lv_iload_n hx hb dX6_takeStatus_0 rfl (lv_at hl 1 rfl) ?_
  refine lv_aload_n hx hb dX6_takeStatus_1 rfl (lv_at hl 0 rfl) ?_
  refine va_get (D := (dC, dI)) (ci := 5) (v := .ref oS) (C := RX6) (T := TX6) (N := 9) hx hb hts (by decide +kernel) hown hK hP 0 rfl rfl 2 (by decide) (hts (.fieldLink RX6 43 "UnibusMachine$Processor" "status" "LUnibusMachine$Status;") (by decide +kernel)) (fun _ h9 => h9) rfl dX6_takeStatus_2 ?_
  refine va_get (D := (dC, dI)) (ci := 6) (v := .int 0) (C := RX7) (T := TX7) (N := 2) hx hb hts (by decide +kernel) hown hK hP 1 rfl rfl 0 (by decide) (hts (.fieldLink RX6 44 "UnibusMachine$Status" "now" "I") (by decide +kernel)) (fun _ h9 => h9) rfl dX6_takeStatus_5 ?_
  refine lv_ixor hx hb dX6_takeStatus_8 ?_
  refine lv_topi (fun y1 ey1 => ?_)
  obtain rfl : y1 = 224 := by rw [ey1]; decide
  refine lv_sipush (v := 16384) hx hb dX6_takeStatus_9 (by decide) ?_
  refine lv_iand hx hb dX6_takeStatus_12 ?_
  refine lv_topi (fun y2 ey2 => ?_)
  obtain rfl : y2 = 0 := by rw [ey2]; decide
  refine lv_if_eq (tgt := 40) hx hb dX6_takeStatus_13 (by decide) (fun c3 => ?_) (fun c3 => ?_)
  · skip
    refine lv_aload_n hx hb dX6_takeStatus_40 rfl (lv_at hl 0 rfl) ?_
    refine va_get (D := (dC, dI)) (ci := 5) (v := .ref oS) (C := RX6) (T := TX6) (N := 9) hx hb hts (by decide +kernel) hown hK hP 0 rfl rfl 2 (by decide) (hts (.fieldLink RX6 43 "UnibusMachine$Processor" "status" "LUnibusMachine$Status;") (by decide +kernel)) (fun _ h9 => h9) rfl dX6_takeStatus_41 ?_
    refine lv_iload_n hx hb dX6_takeStatus_44 rfl (lv_at hl 1 rfl) ?_
    refine va_put (D := (dC, dI)) (ci := 6) (v := .int 224) (ty := .int) (C := RX7) (T := TX7) (N := 2) hx hb hts (by decide +kernel) tyX7 tyX7_ok nmX7 hown hK hP hD hS 1 rfl rfl 0 (by decide) (hts (.fieldLink RX6 44 "UnibusMachine$Status" "now" "I") (by decide +kernel)) (fun _ h9 => h9) rfl (by decide +kernel) rfl rfl (Nat.le_of_ble_eq_true rfl) dX6_takeStatus_45 (fun H locs hP hD hS => ?_)
    have hP : va_P (dC, dI) vwCl [(h0, .inr (5, [.ref ar, .ref oB, .ref oS, .int 0, .int 2, .int 0, .int 0, .int 0, .int 0])), (oS, .inr (6, [.int 224, .int (-1)]))] H := hP
    have hD : va_D A [(h0, .inr (5, [.ref ar, .ref oB, .ref oS, .int 0, .int 2, .int 0, .int 0, .int 0, .int 0])), (oS, .inr (6, [.int 224, .int (-1)]))] := hD
    have hP9 := hP.sub (ws' := [(h0, .inr (5, [.ref ar, .ref oB, .ref oS, .int 0, .int 2, .int 0, .int 0, .int 0, .int 0])), (oS, .inr (6, [.int 224, .int (-1)]))]) [0, 1] rfl
    have hD9 := hD.sub (ws' := [(h0, .inr (5, [.ref ar, .ref oB, .ref oS, .int 0, .int 2, .int 0, .int 0, .int 0, .int 0])), (oS, .inr (6, [.int 224, .int (-1)]))]) [0, 1] (by decide) rfl
    have hK9 := hK.sub (tys' := []) [] rfl
    exact W.vret hx hb hr (fun t ht hW => ⟨⟨(), rfl, trivial, by rw [ht]; exact hP9, va_K.moved hW.alike hK9, hD9⟩, hS.F ht⟩) hS.2.2 dX6_takeStatus_48
  · exact absurd c3 (by decide)
set_option maxHeartbeats 4000000 in
set_option maxRecDepth 100000 in
theorem c_start (l : Launch) (dC : Nat → ClassId) (dI : Nat → Nat → Nat) (h0 : Nat) (oB : Nat) (oP : Nat) (oS : Nat) (ar : Nat) (tr : ClassId) (p0 : Int32) (sz : Nat) (hlt : l.stackTraces = false) : vx_Met l yX8_start wsX8_start ({ frames := 6, cells := 1, slots := 6, locals := 81 } : Room) (va_Pc [.ref h0, .int p0] (fun U => U.heap.size = sz ∧ va_P (dC, dI) vwCl [(h0, .inr (7, [.ref oB, .ref oP])), (oP, .inr (5, [.ref ar, .ref oB, .ref oS, .int 0, .int 2, .int 0, .int 0, .int 0, .int 0])), (oS, .inr (6, [.int 0, .int (-1)])), (ar, .inl (tr, 8, .inl (fun _ => 0)))] U.heap ∧ va_K (dC, dI) vwCl [(tr, .int)] U ∧ va_D (fun _ => True) [(h0, .inr (7, [.ref oB, .ref oP])), (oP, .inr (5, [.ref ar, .ref oB, .ref oS, .int 0, .int 2, .int 0, .int 0, .int 0, .int 0])), (oS, .inr (6, [.int 0, .int (-1)])), (ar, .inl (tr, 8, .inl (fun _ => 0)))] ∧ vx_Zq Bundle.tN "UNASSIGNED_STACK" Bundle.steD (va_A [(h0, .inr (7, [.ref oB, .ref oP])), (oP, .inr (5, [.ref ar, .ref oB, .ref oS, .int 0, .int 2, .int 0, .int 0, .int 0, .int 0])), (oS, .inr (6, [.int 0, .int (-1)])), (ar, .inl (tr, 8, .inl (fun _ => 0)))] sz) U U.heap ∧ vx_Zq Bundle.tN "SUPPRESSED_SENTINEL" Bundle.listD (va_A [(h0, .inr (7, [.ref oB, .ref oP])), (oP, .inr (5, [.ref ar, .ref oB, .ref oS, .int 0, .int 2, .int 0, .int 0, .int 0, .int 0])), (oS, .inr (6, [.int 0, .int (-1)])), (ar, .inl (tr, 8, .inl (fun _ => 0)))] sz) U U.heap ∧ va_Nw (.declares (Bundle.init0 "java/lang/RuntimeException")) U ∧ va_Nw (.declares (Bundle.init0 "java/lang/Exception")) U ∧ va_Nw (.declares (Bundle.init0 Bundle.tN)) U ∧ va_Nw (.castable "java/lang/IllegalArgumentException" "java/lang/IllegalArgumentException") U)) (va_Qv (fun (u : Unit) => 0 ≤ p0.toInt ∧ p0.toInt ≤ 65535) (fun (u : Unit) (t : State) => va_P (dC, dI) vwCl [] t.heap ∧ va_K (dC, dI) vwCl [] t ∧ va_D (va_A [(h0, .inr (7, [.ref oB, .ref oP])), (oP, .inr (5, [.ref ar, .ref oB, .ref oS, .int 0, .int 2, .int 0, .int 0, .int 0, .int 0])), (oS, .inr (6, [.int 0, .int (-1)])), (ar, .inl (tr, 8, .inl (fun _ => 0)))] sz) []) (va_A [(h0, .inr (7, [.ref oB, .ref oP])), (oP, .inr (5, [.ref ar, .ref oB, .ref oS, .int 0, .int 2, .int 0, .int 0, .int 0, .int 0])), (oS, .inr (6, [.int 0, .int (-1)])), (ar, .inl (tr, 8, .inl (fun _ => 0)))] sz)) (vx_X (fun _ : Unit => True) (fun (E : String) (_ : Unit) (_ : State) => E = "java/lang/IllegalArgumentException" ∧ ¬ (0 ≤ p0.toInt ∧ p0.toInt ≤ 65535)) (va_A [(h0, .inr (7, [.ref oB, .ref oP])), (oP, .inr (5, [.ref ar, .ref oB, .ref oS, .int 0, .int 2, .int 0, .int 0, .int 0, .int 0])), (oS, .inr (6, [.int 0, .int (-1)])), (ar, .inl (tr, 8, .inl (fun _ => 0)))] sz)) 1 6 (va_A [(h0, .inr (7, [.ref oB, .ref oP])), (oP, .inr (5, [.ref ar, .ref oB, .ref oS, .int 0, .int 2, .int 0, .int 0, .int 0, .int 0])), (oS, .inr (6, [.int 0, .int (-1)])), (ar, .inl (tr, 8, .inl (fun _ => 0)))] sz) := by
  refine vx_ofW (cc := cX8_start) (maxL := 2) (ret := none) (by decide) rfl ?_
  intro p e s m args below meth c s₁ B hml htab hv
  obtain ⟨rfl, hsz, hP, hK, hD0, hZU, hZN, hd1, hd2, hd3, hcI⟩ := hv
  have hx := B.exec
  have hb := B.bytes
  have hr := B.returns
  have hts := atoms_spec (ws := wsX8_start) B.pre
  have hown : s.vm.findClass RX8 = some m.cls := findClass_of_methodNamed B.named
  have hlocks := B.notSynchronized
  subst hsz
  have hD := hD0.self (sz := s.heap.size)
  generalize hAe : va_A [(h0, .inr (7, [.ref oB, .ref oP])), (oP, .inr (5, [.ref ar, .ref oB, .ref oS, .int 0, .int 2, .int 0, .int 0, .int 0, .int 0])), (oS, .inr (6, [.int 0, .int (-1)])), (ar, .inl (tr, 8, .inl (fun _ => 0)))] s.heap.size = A at hD hZU hZN ⊢
  have hA : ∀ q : Nat, s.heap.size ≤ q → A q := fun q h => by rw [← hAe]; exact Or.inr h
  have hS0 : ∀ G : Heap, s.heap = G → va_S A s.heap G [] := fun G h => by subst h; exact va_S.rf
  generalize hHe : s.heap = H at hP ⊢
  have hS := hS0 H hHe
  have hP : va_P (dC, dI) vwCl [(h0, .inr (7, [.ref oB, .ref oP])), (oP, .inr (5, [.ref ar, .ref oB, .ref oS, .int 0, .int 2, .int 0, .int 0, .int 0, .int 0])), (oS, .inr (6, [.int 0, .int (-1)])), (ar, .inl (tr, 8, .inl (fun _ => 0)))] H := hP
  have hD : va_D A [(h0, .inr (7, [.ref oB, .ref oP])), (oP, .inr (5, [.ref ar, .ref oB, .ref oS, .int 0, .int 2, .int 0, .int 0, .int 0, .int 0])), (oS, .inr (6, [.int 0, .int (-1)])), (ar, .inl (tr, 8, .inl (fun _ => 0)))] := hD
  have hK : va_K (dC, dI) vwCl [(tr, .int)] s := hK
  have hl := lv_entry ([.ref h0, .int p0]) (n := 2) (Nat.le_of_ble_eq_true rfl)
  rw [lg_entry_eq]
  generalize (lg_sl ([.ref h0, .int p0]) ++ List.replicate (2 - (lg_sl ([.ref h0, .int p0])).length) Slot.unset).toArray = ls at hl ⊢
  have hl : lv_has ls 2 [(0, .ref h0), (1, .int p0)] := hl
  refine lv_iload_n hx hb dX8_start_0 rfl (lv_at hl 1 rfl) ?_
  have hPc := hP.sub (ws' := []) [] rfl
  have hDc := hD.sub (ws' := []) [] (by decide) rfl
  have hKc := hK.sub (tys' := []) [] rfl
  have hFc := va_free (wc := []) hD hS hA [] rfl
  refine va_calli (va_runS (As := [.int p0]) (rest := []) ⟨hx, hb, hml, hown, hts⟩ (c_isWord l dC dI p0 H.size) (va_cwS 1 hts gX8_start_X8_isWord rfl rfl rfl (by decide +kernel) ⟨Nat.le_of_ble_eq_true rfl, Nat.le_of_ble_eq_true rfl⟩) ⟨fun a U g mk q => by obtain ⟨q0, q1, qP, qK, qD⟩ := q; exact ⟨q0, q1, qP, va_K.moved (u := U) (U := U.calling g mk a) (Vm.Alike.refl U.vm) qK, qD⟩, fun U hU hW => ⟨rfl, by rw [hU], by rw [hU]; exact hPc, va_K.moved hW.alike hKc, hDc.weaken (fun _ _ _ _ => trivial)⟩⟩ rfl rfl hl.1 rfl (lv_room (Nat.le_of_ble_eq_true rfl)) dX8_start_1 ⟨Nat.le_of_ble_eq_true rfl, Nat.le_of_ble_eq_true rfl⟩) hS (fun q _ h => hFc q h) hFc (fun r1 u2 t H1 locs ht hvm hw hB hz1 hk1 hS => ?_)
  obtain ⟨hP1, hK1, hD1⟩ := hB
  rw [ht] at hP1
  have hK1 := va_K.moved hvm.symm hK1
  try dsimp only at hw
  obtain ⟨hP, hD⟩ := va_join (wr := [(h0, .inr (7, [.ref oB, .ref oP])), (oP, .inr (5, [.ref ar, .ref oB, .ref oS, .int 0, .int 2, .int 0, .int 0, .int 0, .int 0])), (oS, .inr (6, [.int 0, .int (-1)])), (ar, .inl (tr, 8, .inl (fun _ => 0)))]) (w1 := []) hP hD [] [0, 1, 2, 3] rfl rfl (by decide) (by decide) hk1 hFc hP1 hD1
  have hK := (hK.sub (tys' := [(tr, .int)]) [0] rfl).app hK1
  generalize H1 = H at hP hS ⊢
  have hP : va_P (dC, dI) vwCl [(h0, .inr (7, [.ref oB, .ref oP])), (oP, .inr (5, [.ref ar, .ref oB, .ref oS, .int 0, .int 2, .int 0, .int 0, .int 0, .int 0])), (oS, .inr (6, [.int 0, .int (-1)])), (ar, .inl (tr, 8, .inl (fun _ => 0)))] H := hP
  have hD : va_D A [(h0, .inr (7, [.ref oB, .ref oP])), (oP, .inr (5, [.ref ar, .ref oB, .ref oS, .int 0, .int 2, .int 0, .int 0, .int 0, .int 0])), (oS, .inr (6, [.int 0, .int (-1)])), (ar, .inl (tr, 8, .inl (fun _ => 0)))] := hD
  have hK : va_K (dC, dI) vwCl [(tr, .int)] s := hK
  rcases hw with ⟨rfl, _, _⟩ | ⟨rfl, _⟩
  · skip
    refine lv_if_ne (tgt := 15) hx hb dX8_start_4 (by decide) (fun c3 => ?_) (fun c3 => ?_)
    · skip
      refine lv_aload_n hx hb dX8_start_15 rfl (lv_at hl 0 rfl) ?_
      refine va_get (D := (dC, dI)) (ci := 7) (v := .ref oP) (C := RX8) (T := TX8) (N := 2) hx hb hts (by decide +kernel) hown hK hP 0 rfl rfl 1 (by decide) (hts (.fieldLink RX8 21 "UnibusMachine" "processor" "LUnibusMachine$Processor;") (by decide +kernel)) (fun _ h9 => h9) rfl dX8_start_16 ?_
      refine lv_sipush (v := 224) hx hb dX8_start_19 (by decide) ?_
      have hPc := hP.sub (ws' := [(oP, .inr (5, [.ref ar, .ref oB, .ref oS, .int 0, .int 2, .int 0, .int 0, .int 0, .int 0])), (oS, .inr (6, [.int 0, .int (-1)]))]) [1, 2] rfl
      have hDc := hD.sub (ws' := [(oP, .inr (5, [.ref ar, .ref oB, .ref oS, .int 0, .int 2, .int 0, .int 0, .int 0, .int 0])), (oS, .inr (6, [.int 0, .int (-1)]))]) [1, 2] (by decide) rfl
      have hKc := hK.sub (tys' := []) [] rfl
      have hFc := va_free (wc := [(oP, .inr (5, [.ref ar, .ref oB, .ref oS, .int 0, .int 2, .int 0, .int 0, .int 0, .int 0])), (oS, .inr (6, [.int 0, .int (-1)]))]) hD hS hA [1, 2] rfl
      refine va_callv (va_runV (As := [.int 224]) (rest := []) ⟨hx, hb, hml, hown, hts⟩ (c_takeStatus l dC dI oP ar oB oS H.size) (cwV 1 hts gX8_start_X6_takeStatus rfl rfl rfl (by decide +kernel) ⟨Nat.le_of_ble_eq_true rfl, Nat.le_of_ble_eq_true rfl⟩) ⟨fun a U g mk q => by obtain ⟨q0, q1, qP, qK, qD⟩ := q; exact ⟨q0, q1, qP, va_K.moved (u := U) (U := U.calling g mk a) (Vm.Alike.refl U.vm) qK, qD⟩, va_recv hKc hPc (ci := 5) (q0 := 0) rfl rfl, fun U hU hW => ⟨rfl, by rw [hU], by rw [hU]; exact hPc, va_K.moved hW.alike hKc, hDc.weaken (fun _ _ _ _ => trivial)⟩⟩ rfl rfl hl.1 rfl (lv_room (Nat.le_of_ble_eq_true rfl)) dX8_start_22 ⟨Nat.le_of_ble_eq_true rfl, Nat.le_of_ble_eq_true rfl⟩) hS (fun q _ h => hFc q h) hFc (fun u5 t H1 locs ht hvm hw hB hz1 hk1 hS => ?_)
      obtain ⟨hP1, hK1, hD1⟩ := hB
      rw [ht] at hP1
      have hK1 := va_K.moved hvm.symm hK1
      try dsimp only at hw
      obtain ⟨hP, hD⟩ := va_join (wr := [(h0, .inr (7, [.ref oB, .ref oP])), (ar, .inl (tr, 8, .inl (fun _ => 0)))]) (w1 := [(oP, .inr (5, [.ref ar, .ref oB, .ref oS, .int 0, .int 2, .int 0, .int 0, .int 0, .int 0])), (oS, .inr (6, [.int 224, .int (-1)]))]) hP hD [1, 2] [0, 3] rfl rfl (by decide) (by decide) hk1 hFc hP1 hD1
      have hK := (hK.sub (tys' := [(tr, .int)]) [0] rfl).app hK1
      generalize H1 = H at hP hS ⊢
      have hP : va_P (dC, dI) vwCl [(h0, .inr (7, [.ref oB, .ref oP])), (ar, .inl (tr, 8, .inl (fun _ => 0))), (oP, .inr (5, [.ref ar, .ref oB, .ref oS, .int 0, .int 2, .int 0, .int 0, .int 0, .int 0])), (oS, .inr (6, [.int 224, .int (-1)]))] H := hP
      have hD : va_D A [(h0, .inr (7, [.ref oB, .ref oP])), (ar, .inl (tr, 8, .inl (fun _ => 0))), (oP, .inr (5, [.ref ar, .ref oB, .ref oS, .int 0, .int 2, .int 0, .int 0, .int 0, .int 0])), (oS, .inr (6, [.int 224, .int (-1)]))] := hD
      have hK : va_K (dC, dI) vwCl [(tr, .int)] s := hK
      refine lv_aload_n hx hb dX8_start_25 rfl (lv_at hl 0 rfl) ?_
      refine va_get (D := (dC, dI)) (ci := 7) (v := .ref oP) (C := RX8) (T := TX8) (N := 2) hx hb hts (by decide +kernel) hown hK hP 0 rfl rfl 1 (by decide) (hts (.fieldLink RX8 21 "UnibusMachine" "processor" "LUnibusMachine$Processor;") (by decide +kernel)) (fun _ h9 => h9) rfl dX8_start_26 ?_
      refine va_get (D := (dC, dI)) (ci := 5) (v := .ref ar) (C := RX6) (T := TX6) (N := 9) hx hb hts (by decide +kernel) hown hK hP 2 rfl rfl 0 (by decide) (hts (.fieldLink RX8 47 "UnibusMachine$Processor" "registers" "[I") (by decide +kernel)) (fun _ h9 => h9) rfl dX8_start_29 ?_
      refine lv_bipush (v := 7) hx hb dX8_start_32 (by decide) ?_
      refine lv_iload_n hx hb dX8_start_34 rfl (lv_at hl 1 rfl) ?_
      refine va_iast (D := (dC, dI)) hx hb hK hP hD hS 1 0 rfl rfl (vp_in_iff.mpr (by decide)) dX8_start_35 (fun H locs hP hD hS => ?_)
      have hP : va_P (dC, dI) vwCl [(h0, .inr (7, [.ref oB, .ref oP])), (ar, .inl (tr, 8, .inl (upd (fun _ => 0) (7 : Int32).toNatClampNeg p0))), (oP, .inr (5, [.ref ar, .ref oB, .ref oS, .int 0, .int 2, .int 0, .int 0, .int 0, .int 0])), (oS, .inr (6, [.int 224, .int (-1)]))] H := hP
      have hD : va_D A [(h0, .inr (7, [.ref oB, .ref oP])), (ar, .inl (tr, 8, .inl (upd (fun _ => 0) (7 : Int32).toNatClampNeg p0))), (oP, .inr (5, [.ref ar, .ref oB, .ref oS, .int 0, .int 2, .int 0, .int 0, .int 0, .int 0])), (oS, .inr (6, [.int 224, .int (-1)]))] := hD
      refine lv_aload_n hx hb dX8_start_36 rfl (lv_at hl 0 rfl) ?_
      refine va_get (D := (dC, dI)) (ci := 7) (v := .ref oP) (C := RX8) (T := TX8) (N := 2) hx hb hts (by decide +kernel) hown hK hP 0 rfl rfl 1 (by decide) (hts (.fieldLink RX8 21 "UnibusMachine" "processor" "LUnibusMachine$Processor;") (by decide +kernel)) (fun _ h9 => h9) rfl dX8_start_37 ?_
      refine lv_iconst (v := 0) hx hb dX8_start_40 (by decide) ?_
      refine va_put (D := (dC, dI)) (ci := 5) (v := .int 0) (ty := .int) (C := RX6) (T := TX6) (N := 9) hx hb hts (by decide +kernel) tyX6 tyX6_ok nmX6 hown hK hP hD hS 2 rfl rfl 4 (by decide) (hts (.fieldLink RX8 63 "UnibusMachine$Processor" "halted" "I") (by decide +kernel)) (fun _ h9 => h9) rfl (by decide +kernel) rfl rfl (Nat.le_of_ble_eq_true rfl) dX8_start_41 (fun H locs hP hD hS => ?_)
      have hP : va_P (dC, dI) vwCl [(h0, .inr (7, [.ref oB, .ref oP])), (ar, .inl (tr, 8, .inl (upd (fun _ => 0) (7 : Int32).toNatClampNeg p0))), (oP, .inr (5, [.ref ar, .ref oB, .ref oS, .int 0, .int 0, .int 0, .int 0, .int 0, .int 0])), (oS, .inr (6, [.int 224, .int (-1)]))] H := hP
      have hD : va_D A [(h0, .inr (7, [.ref oB, .ref oP])), (ar, .inl (tr, 8, .inl (upd (fun _ => 0) (7 : Int32).toNatClampNeg p0))), (oP, .inr (5, [.ref ar, .ref oB, .ref oS, .int 0, .int 0, .int 0, .int 0, .int 0, .int 0])), (oS, .inr (6, [.int 224, .int (-1)]))] := hD
      refine lv_aload_n hx hb dX8_start_44 rfl (lv_at hl 0 rfl) ?_
      refine va_get (D := (dC, dI)) (ci := 7) (v := .ref oP) (C := RX8) (T := TX8) (N := 2) hx hb hts (by decide +kernel) hown hK hP 0 rfl rfl 1 (by decide) (hts (.fieldLink RX8 21 "UnibusMachine" "processor" "LUnibusMachine$Processor;") (by decide +kernel)) (fun _ h9 => h9) rfl dX8_start_45 ?_
      refine lv_iconst (v := 0) hx hb dX8_start_48 (by decide) ?_
      refine va_put (D := (dC, dI)) (ci := 5) (v := .int 0) (ty := .boolean) (C := RX6) (T := TX6) (N := 9) hx hb hts (by decide +kernel) tyX6 tyX6_ok nmX6 hown hK hP hD hS 2 rfl rfl 5 (by decide) (hts (.fieldLink RX8 66 "UnibusMachine$Processor" "waiting" "Z") (by decide +kernel)) (fun _ h9 => h9) rfl (by decide +kernel) (by decide) rfl (Nat.le_of_ble_eq_true rfl) dX8_start_49 (fun H locs hP hD hS => ?_)
      have hP : va_P (dC, dI) vwCl [(h0, .inr (7, [.ref oB, .ref oP])), (ar, .inl (tr, 8, .inl (upd (fun _ => 0) (7 : Int32).toNatClampNeg p0))), (oP, .inr (5, [.ref ar, .ref oB, .ref oS, .int 0, .int 0, .int 0, .int 0, .int 0, .int 0])), (oS, .inr (6, [.int 224, .int (-1)]))] H := hP
      have hD : va_D A [(h0, .inr (7, [.ref oB, .ref oP])), (ar, .inl (tr, 8, .inl (upd (fun _ => 0) (7 : Int32).toNatClampNeg p0))), (oP, .inr (5, [.ref ar, .ref oB, .ref oS, .int 0, .int 0, .int 0, .int 0, .int 0, .int 0])), (oS, .inr (6, [.int 224, .int (-1)]))] := hD
      have hP9 := hP.sub (ws' := []) [] rfl
      have hD9 := hD.sub (ws' := []) [] (by decide) rfl
      have hK9 := hK.sub (tys' := []) [] rfl
      refine vx_ret ?_
      refine W.widen (k := 1) (n := 6) (Nat.le_of_ble_eq_true rfl) (Nat.le_of_ble_eq_true rfl) ?_
      exact W.vret hx hb hr (fun t ht hW => ⟨⟨(), rfl, (by omega), by rw [ht]; exact hP9, va_K.moved hW.alike hK9, hD9⟩, hS.F ht⟩) hS.2.2 dX8_start_52
    · exact absurd c3 (by decide)
  · skip
    refine lv_if_ne (tgt := 15) hx hb dX8_start_4 (by decide) (fun c6 => ?_) (fun c6 => ?_)
    · exact absurd c6 (by decide)
    · skip
      have hpx9 : "java/lang/IllegalArgumentException" = "java/lang/IllegalArgumentException" ∧ ¬ (0 ≤ p0.toInt ∧ p0.toInt ≤ 65535) := by exact ⟨rfl, by omega⟩
      exact vx_throw0 (names := ["java/lang/RuntimeException", "java/lang/Exception"]) (cls := "java/lang/IllegalArgumentException") (ik := 32) (ic := 34) (A := A) hx hb hlt hown (by decide) (by decide) (hts (.classLink RX8 32 "java/lang/IllegalArgumentException") (by decide +kernel)) (hts (.initialized "java/lang/IllegalArgumentException") (by decide +kernel)) (vx_hat (fun w h => hts w (List.mem_cons_of_mem _ (List.mem_append_right _ h))) (by decide +kernel) (vx_c (va_Nw.use rfl hcI) (vx_c (va_Nw.use rfl hd1) (vx_c (va_Nw.use rfl hd2) (vx_c (va_Nw.use rfl hd3) vx_n))))) (by decide +kernel) hZU hZN hS (by rw [hml]; exact hl.1) dX8_start_7 dX8_start_10 dX8_start_11 dX8_start_14 (fun x h => (htab x h).elim) (Nat.le_of_ble_eq_true rfl) (Nat.le_of_ble_eq_true rfl) (Nat.le_of_ble_eq_true rfl) (Nat.le_of_ble_eq_true rfl) hlocks (fun t hal hz hk => ⟨(), trivial, hpx9, Nat.le_trans hS.1 hz, fun q h1 h2 => (hk q (Nat.lt_of_lt_of_le h1 hS.1)).trans (hS.2.1 q h1 h2)⟩) hS.2.2 (Nat.le_of_ble_eq_true rfl) (Nat.le_of_ble_eq_true rfl)
set_option maxHeartbeats 4000000 in
set_option maxRecDepth 100000 in
theorem c_run (l : Launch) (dC : Nat → ClassId) (dI : Nat → Nat → Nat) (h0 : Nat) (oB : Nat) (oP : Nat) (oS : Nat) (ar : Nat) (p0 : Int32) (sz : Nat) (hlt : l.stackTraces = false) : vx_Met l yX8_run wsX8_run ({ frames := 6, cells := 1, slots := 6, locals := 81 } : Room) (va_Pc [.ref h0, .int p0] (fun U => U.heap.size = sz ∧ va_P (dC, dI) vwCl [(h0, .inr (7, [.ref oB, .ref oP])), (oP, .inr (5, [.ref ar, .ref oB, .ref oS, .int 0, .int 2, .int 0, .int 0, .int 0, .int 0]))] U.heap ∧ va_K (dC, dI) vwCl [] U ∧ va_D (fun _ => True) [(h0, .inr (7, [.ref oB, .ref oP])), (oP, .inr (5, [.ref ar, .ref oB, .ref oS, .int 0, .int 2, .int 0, .int 0, .int 0, .int 0]))] ∧ vx_Zq Bundle.tN "UNASSIGNED_STACK" Bundle.steD (va_A [(h0, .inr (7, [.ref oB, .ref oP])), (oP, .inr (5, [.ref ar, .ref oB, .ref oS, .int 0, .int 2, .int 0, .int 0, .int 0, .int 0]))] sz) U U.heap ∧ vx_Zq Bundle.tN "SUPPRESSED_SENTINEL" Bundle.listD (va_A [(h0, .inr (7, [.ref oB, .ref oP])), (oP, .inr (5, [.ref ar, .ref oB, .ref oS, .int 0, .int 2, .int 0, .int 0, .int 0, .int 0]))] sz) U U.heap ∧ va_Nw (.declares (Bundle.init0 "java/lang/RuntimeException")) U ∧ va_Nw (.declares (Bundle.init0 "java/lang/Exception")) U ∧ va_Nw (.declares (Bundle.init0 Bundle.tN)) U ∧ va_Nw (.castable "java/lang/IllegalArgumentException" "java/lang/IllegalArgumentException") U ∧ va_Nw (.castable "java/lang/IllegalStateException" "java/lang/IllegalStateException") U)) (va_Qi (fun (r : Int32) (u : Unit) => False) (fun (u : Unit) (t : State) => va_P (dC, dI) vwCl [] t.heap ∧ va_K (dC, dI) vwCl [] t ∧ va_D (va_A [(h0, .inr (7, [.ref oB, .ref oP])), (oP, .inr (5, [.ref ar, .ref oB, .ref oS, .int 0, .int 2, .int 0, .int 0, .int 0, .int 0]))] sz) []) (va_A [(h0, .inr (7, [.ref oB, .ref oP])), (oP, .inr (5, [.ref ar, .ref oB, .ref oS, .int 0, .int 2, .int 0, .int 0, .int 0, .int 0]))] sz)) (vx_X (fun _ : Unit => True) (fun (E : String) (_ : Unit) (_ : State) => (E = "java/lang/IllegalArgumentException" ∧ ¬ (1 ≤ p0.toInt ∧ p0.toInt ≤ 40)) ∨ (E = "java/lang/IllegalStateException" ∧ 1 ≤ p0.toInt ∧ p0.toInt ≤ 40)) (va_A [(h0, .inr (7, [.ref oB, .ref oP])), (oP, .inr (5, [.ref ar, .ref oB, .ref oS, .int 0, .int 2, .int 0, .int 0, .int 0, .int 0]))] sz)) 1 6 (va_A [(h0, .inr (7, [.ref oB, .ref oP])), (oP, .inr (5, [.ref ar, .ref oB, .ref oS, .int 0, .int 2, .int 0, .int 0, .int 0, .int 0]))] sz) := by
  refine vx_ofW (cc := cX8_run) (maxL := 3) (ret := (some .int)) (by decide) rfl ?_
  intro p e s m args below meth c s₁ B hml htab hv
  obtain ⟨rfl, hsz, hP, hK, hD0, hZU, hZN, hd1, hd2, hd3, hcI, hcS⟩ := hv
  have hx := B.exec
  have hb := B.bytes
  have hr := B.returns
  have hts := atoms_spec (ws := wsX8_run) B.pre
  have hown : s.vm.findClass RX8 = some m.cls := findClass_of_methodNamed B.named
  have hlocks := B.notSynchronized
  subst hsz
  have hD := hD0.self (sz := s.heap.size)
  generalize hAe : va_A [(h0, .inr (7, [.ref oB, .ref oP])), (oP, .inr (5, [.ref ar, .ref oB, .ref oS, .int 0, .int 2, .int 0, .int 0, .int 0, .int 0]))] s.heap.size = A at hD hZU hZN ⊢
  have hA : ∀ q : Nat, s.heap.size ≤ q → A q := fun q h => by rw [← hAe]; exact Or.inr h
  have hS0 : ∀ G : Heap, s.heap = G → va_S A s.heap G [] := fun G h => by subst h; exact va_S.rf
  generalize hHe : s.heap = H at hP ⊢
  have hS := hS0 H hHe
  have hP : va_P (dC, dI) vwCl [(h0, .inr (7, [.ref oB, .ref oP])), (oP, .inr (5, [.ref ar, .ref oB, .ref oS, .int 0, .int 2, .int 0, .int 0, .int 0, .int 0]))] H := hP
  have hD : va_D A [(h0, .inr (7, [.ref oB, .ref oP])), (oP, .inr (5, [.ref ar, .ref oB, .ref oS, .int 0, .int 2, .int 0, .int 0, .int 0, .int 0]))] := hD
  have hK : va_K (dC, dI) vwCl [] s := hK
  have hl := lv_entry ([.ref h0, .int p0]) (n := 3) (Nat.le_of_ble_eq_true rfl)
  rw [lg_entry_eq]
  generalize (lg_sl ([.ref h0, .int p0]) ++ List.replicate (3 - (lg_sl ([.ref h0, .int p0])).length) Slot.unset).toArray = ls at hl ⊢
  have hl : lv_has ls 3 [(0, .ref h0), (1, .int p0)] := hl
  have kk1 : (1 : Int32).toInt = 1 := by decide
  have kk40 : (40 : Int32).toInt = 40 := by decide
  refine lv_iload_n hx hb dX8_run_0 rfl (lv_at hl 1 rfl) ?_
  refine lv_iconst (v := 1) hx hb dX8_run_1 (by decide) ?_
  refine lv_icmp_lt (tgt := 11) hx hb dX8_run_2 (by decide) (fun c1 => ?_) (fun c1 => ?_)
  · have c1 := fz_lt.mp c1
    have kk1 : (1 : Int32).toInt = 1 := by decide
    have hpx9 : ("java/lang/IllegalArgumentException" = "java/lang/IllegalArgumentException" ∧ ¬ (1 ≤ p0.toInt ∧ p0.toInt ≤ 40)) ∨ ("java/lang/IllegalArgumentException" = "java/lang/IllegalStateException" ∧ 1 ≤ p0.toInt ∧ p0.toInt ≤ 40) := by exact Or.inl ⟨rfl, by omega⟩
    exact vx_throw0 (names := ["java/lang/RuntimeException", "java/lang/Exception"]) (cls := "java/lang/IllegalArgumentException") (ik := 32) (ic := 34) (A := A) hx hb hlt hown (by decide) (by decide) (hts (.classLink RX8 32 "java/lang/IllegalArgumentException") (by decide +kernel)) (hts (.initialized "java/lang/IllegalArgumentException") (by decide +kernel)) (vx_hat (fun w h => hts w (List.mem_cons_of_mem _ (List.mem_append_left _ (List.mem_append_right _ h)))) (by decide +kernel) (vx_c (va_Nw.use rfl hcI) (vx_c (va_Nw.use rfl hd1) (vx_c (va_Nw.use rfl hd2) (vx_c (va_Nw.use rfl hd3) vx_n))))) (by decide +kernel) hZU hZN hS (by rw [hml]; exact hl.1) dX8_run_11 dX8_run_14 dX8_run_15 dX8_run_18 (fun x h => (htab x h).elim) (Nat.le_of_ble_eq_true rfl) (Nat.le_of_ble_eq_true rfl) (Nat.le_of_ble_eq_true rfl) (Nat.le_of_ble_eq_true rfl) hlocks (fun t hal hz hk => ⟨(), trivial, hpx9, Nat.le_trans hS.1 hz, fun q h1 h2 => (hk q (Nat.lt_of_lt_of_le h1 hS.1)).trans (hS.2.1 q h1 h2)⟩) hS.2.2 (Nat.le_of_ble_eq_true rfl) (Nat.le_of_ble_eq_true rfl)
  · have c1 := fz_nlt.mp c1
    have kk1 : (1 : Int32).toInt = 1 := by decide
    refine lv_iload_n hx hb dX8_run_5 rfl (lv_at hl 1 rfl) ?_
    refine lv_bipush (v := 40) hx hb dX8_run_6 (by decide) ?_
    refine lv_icmp_le (tgt := 19) hx hb dX8_run_8 (by decide) (fun c2 => ?_) (fun c2 => ?_)
    · have c2 := fz_le.mp c2
      have kk40 : (40 : Int32).toInt = 40 := by decide
      refine lv_aload_n hx hb dX8_run_19 rfl (lv_at hl 0 rfl) ?_
      refine va_get (D := (dC, dI)) (ci := 7) (v := .ref oP) (C := RX8) (T := TX8) (N := 2) hx hb hts (by decide +kernel) hown hK hP 0 rfl rfl 1 (by decide) (hts (.fieldLink RX8 21 "UnibusMachine" "processor" "LUnibusMachine$Processor;") (by decide +kernel)) (fun _ h9 => h9) rfl dX8_run_20 ?_
      refine va_get (D := (dC, dI)) (ci := 5) (v := .int 2) (C := RX6) (T := TX6) (N := 9) hx hb hts (by decide +kernel) hown hK hP 1 rfl rfl 4 (by decide) (hts (.fieldLink RX8 63 "UnibusMachine$Processor" "halted" "I") (by decide +kernel)) (fun _ h9 => h9) rfl dX8_run_23 ?_
      refine lv_if_eq (tgt := 37) hx hb dX8_run_26 (by decide) (fun c3 => ?_) (fun c3 => ?_)
      · exact absurd c3 (by decide)
      · skip
        have hpx9 : ("java/lang/IllegalStateException" = "java/lang/IllegalArgumentException" ∧ ¬ (1 ≤ p0.toInt ∧ p0.toInt ≤ 40)) ∨ ("java/lang/IllegalStateException" = "java/lang/IllegalStateException" ∧ 1 ≤ p0.toInt ∧ p0.toInt ≤ 40) := by exact Or.inr ⟨rfl, by omega, by omega⟩
        exact vx_throw0 (names := ["java/lang/RuntimeException", "java/lang/Exception"]) (cls := "java/lang/IllegalStateException") (ik := 70) (ic := 72) (A := A) hx hb hlt hown (by decide) (by decide) (hts (.classLink RX8 70 "java/lang/IllegalStateException") (by decide +kernel)) (hts (.initialized "java/lang/IllegalStateException") (by decide +kernel)) (vx_hat (fun w h => hts w (List.mem_cons_of_mem _ (List.mem_append_right _ h))) (by decide +kernel) (vx_c (va_Nw.use rfl hcS) (vx_c (va_Nw.use rfl hd1) (vx_c (va_Nw.use rfl hd2) (vx_c (va_Nw.use rfl hd3) vx_n))))) (by decide +kernel) hZU hZN hS (by rw [hml]; exact hl.1) dX8_run_29 dX8_run_32 dX8_run_33 dX8_run_36 (fun x h => (htab x h).elim) (Nat.le_of_ble_eq_true rfl) (Nat.le_of_ble_eq_true rfl) (Nat.le_of_ble_eq_true rfl) (Nat.le_of_ble_eq_true rfl) hlocks (fun t hal hz hk => ⟨(), trivial, hpx9, Nat.le_trans hS.1 hz, fun q h1 h2 => (hk q (Nat.lt_of_lt_of_le h1 hS.1)).trans (hS.2.1 q h1 h2)⟩) hS.2.2 (Nat.le_of_ble_eq_true rfl) (Nat.le_of_ble_eq_true rfl)
    · have c2 := fz_nle.mp c2
      have kk40 : (40 : Int32).toInt = 40 := by decide
      have hpx9 : ("java/lang/IllegalArgumentException" = "java/lang/IllegalArgumentException" ∧ ¬ (1 ≤ p0.toInt ∧ p0.toInt ≤ 40)) ∨ ("java/lang/IllegalArgumentException" = "java/lang/IllegalStateException" ∧ 1 ≤ p0.toInt ∧ p0.toInt ≤ 40) := by exact Or.inl ⟨rfl, by omega⟩
      exact vx_throw0 (names := ["java/lang/RuntimeException", "java/lang/Exception"]) (cls := "java/lang/IllegalArgumentException") (ik := 32) (ic := 34) (A := A) hx hb hlt hown (by decide) (by decide) (hts (.classLink RX8 32 "java/lang/IllegalArgumentException") (by decide +kernel)) (hts (.initialized "java/lang/IllegalArgumentException") (by decide +kernel)) (vx_hat (fun w h => hts w (List.mem_cons_of_mem _ (List.mem_append_left _ (List.mem_append_right _ h)))) (by decide +kernel) (vx_c (va_Nw.use rfl hcI) (vx_c (va_Nw.use rfl hd1) (vx_c (va_Nw.use rfl hd2) (vx_c (va_Nw.use rfl hd3) vx_n))))) (by decide +kernel) hZU hZN hS (by rw [hml]; exact hl.1) dX8_run_11 dX8_run_14 dX8_run_15 dX8_run_18 (fun x h => (htab x h).elim) (Nat.le_of_ble_eq_true rfl) (Nat.le_of_ble_eq_true rfl) (Nat.le_of_ble_eq_true rfl) (Nat.le_of_ble_eq_true rfl) hlocks (fun t hal hz hk => ⟨(), trivial, hpx9, Nat.le_trans hS.1 hz, fun q h1 h2 => (hk q (Nat.lt_of_lt_of_le h1 hS.1)).trans (hS.2.1 q h1 h2)⟩) hS.2.2 (Nat.le_of_ble_eq_true rfl) (Nat.le_of_ble_eq_true rfl)
set_option maxHeartbeats 4000000 in
set_option maxRecDepth 100000 in
theorem c_become (l : Launch) (dC : Nat → ClassId) (dI : Nat → Nat → Nat) (h0 : Nat) (k0 : Int32) (sz : Nat) : Met l yX3_become wsX3_become ({ frames := 0, cells := 0, slots := 0, locals := 0 } : Room) (va_Pc [.ref h0, .int 128] (fun U => U.heap.size = sz ∧ va_P (dC, dI) vwCl [(h0, .inr (2, [.int 0, .int 0, .int k0]))] U.heap ∧ va_K (dC, dI) vwCl [] U ∧ va_D (fun _ => True) [(h0, .inr (2, [.int 0, .int 0, .int k0]))])) (va_Qv (fun (u : Unit) => True) (fun (u : Unit) (t : State) => va_P (dC, dI) vwCl [] t.heap ∧ va_K (dC, dI) vwCl [] t ∧ va_D (va_A [(h0, .inr (2, [.int 0, .int 0, .int k0]))] sz) []) (va_A [(h0, .inr (2, [.int 0, .int 0, .int k0]))] sz)) 0 0 (va_A [(h0, .inr (2, [.int 0, .int 0, .int k0]))] sz) := by
  refine Met.ofW (cc := cX3_become) (maxL := 2) (ret := none) (by decide) rfl ?_
  intro p e s m args below meth c s₁ B hml hv
  obtain ⟨rfl, hsz, hP, hK, hD0⟩ := hv
  have hx := B.exec
  have hb := B.bytes
  have hr := B.returns
  have hts := atoms_spec (ws := wsX3_become) B.pre
  have hown : s.vm.findClass RX3 = some m.cls := findClass_of_methodNamed B.named
  have hlocks := B.notSynchronized
  subst hsz
  have hD := hD0.self (sz := s.heap.size)
  generalize hAe : va_A [(h0, .inr (2, [.int 0, .int 0, .int k0]))] s.heap.size = A at hD ⊢
  have hA : ∀ q : Nat, s.heap.size ≤ q → A q := fun q h => by rw [← hAe]; exact Or.inr h
  have hS0 : ∀ G : Heap, s.heap = G → va_S A s.heap G [] := fun G h => by subst h; exact va_S.rf
  generalize hHe : s.heap = H at hP ⊢
  have hS := hS0 H hHe
  have hP : va_P (dC, dI) vwCl [(h0, .inr (2, [.int 0, .int 0, .int k0]))] H := hP
  have hD : va_D A [(h0, .inr (2, [.int 0, .int 0, .int k0]))] := hD
  have hK : va_K (dC, dI) vwCl [] s := hK
  have hl := lv_entry ([.ref h0, .int 128]) (n := 2) (Nat.le_of_ble_eq_true rfl)
  rw [lg_entry_eq]
  generalize (lg_sl ([.ref h0, .int 128]) ++ List.replicate (2 - (lg_sl ([.ref h0, .int 128])).length) Slot.unset).toArray = ls at hl ⊢
  have hl : lv_has ls 2 [(0, .ref h0), (1, .int 128)] := hl
  refine lv_aload_n hx hb dX3_become_0 rfl (lv_at hl 0 rfl) ?_
  refine lv_iload_n hx hb dX3_become_1 rfl (lv_at hl 1 rfl) ?_
  refine lv_sipush (v := 192) hx hb dX3_become_2 (by decide) ?_
  refine lv_icmp_ne (tgt := 29) hx hb dX3_become_5 (by decide) (fun c1 => ?_) (fun c1 => ?_)
  · skip
    refine lv_iconst (v := 0) hx hb dX3_become_29 (by decide) ?_
    refine va_put (D := (dC, dI)) (ci := 2) (v := .int 0) (ty := .boolean) (C := RX2) (T := TX2) (N := 3) hx hb hts (by decide +kernel) tyX2 tyX2_ok nmX2 hown hK hP hD hS 0 rfl rfl 1 (by decide) (hts (.fieldLink RX3 13 "UnibusMachine$Line" "wanting" "Z") (by decide +kernel)) (fun _ h9 => h9) rfl (by decide +kernel) (by decide) rfl (Nat.le_of_ble_eq_true rfl) dX3_become_30 (fun H locs hP hD hS => ?_)
    have hP : va_P (dC, dI) vwCl [(h0, .inr (2, [.int 0, .int 0, .int k0]))] H := hP
    have hD : va_D A [(h0, .inr (2, [.int 0, .int 0, .int k0]))] := hD
    refine lv_aload_n hx hb dX3_become_33 rfl (lv_at hl 0 rfl) ?_
    refine lv_iload_n hx hb dX3_become_34 rfl (lv_at hl 1 rfl) ?_
    refine va_put (D := (dC, dI)) (ci := 2) (v := .int 128) (ty := .int) (C := RX2) (T := TX2) (N := 3) hx hb hts (by decide +kernel) tyX2 tyX2_ok nmX2 hown hK hP hD hS 0 rfl rfl 0 (by decide) (hts (.fieldLink RX3 9 "UnibusMachine$Line" "bits" "I") (by decide +kernel)) (fun _ h9 => h9) rfl (by decide +kernel) rfl rfl (Nat.le_of_ble_eq_true rfl) dX3_become_35 (fun H locs hP hD hS => ?_)
    have hP : va_P (dC, dI) vwCl [(h0, .inr (2, [.int 128, .int 0, .int k0]))] H := hP
    have hD : va_D A [(h0, .inr (2, [.int 128, .int 0, .int k0]))] := hD
    have hP9 := hP.sub (ws' := []) [] rfl
    have hD9 := hD.sub (ws' := []) [] (by decide) rfl
    have hK9 := hK.sub (tys' := []) [] rfl
    exact W.vret hx hb hr (fun t ht hW => ⟨⟨(), rfl, trivial, by rw [ht]; exact hP9, va_K.moved hW.alike hK9, hD9⟩, hS.F ht⟩) hS.2.2 dX3_become_38
  · exact absurd c1 (by decide)
set_option maxHeartbeats 4000000 in
set_option maxRecDepth 100000 in
theorem c_type (l : Launch) (dC : Nat → ClassId) (dI : Nat → Nat → Nat) (h0 : Nat) (p0 : Int32) (sz : Nat) : Met l yX2_type wsX2_type ({ frames := 1, cells := 0, slots := 0, locals := 21 } : Room) (va_Pc [.ref h0, .int p0] (fun U => U.heap.size = sz ∧ va_P (dC, dI) vwCl [(h0, .inr (2, [.int 0, .int 0, .int 0]))] U.heap ∧ va_K (dC, dI) vwCl [] U ∧ va_D (fun _ => True) [(h0, .inr (2, [.int 0, .int 0, .int 0]))])) (va_Qv (fun (u : Unit) => True) (fun (u : Unit) (t : State) => va_P (dC, dI) vwCl [] t.heap ∧ va_K (dC, dI) vwCl [] t ∧ va_D (va_A [(h0, .inr (2, [.int 0, .int 0, .int 0]))] sz) []) (va_A [(h0, .inr (2, [.int 0, .int 0, .int 0]))] sz)) 0 0 (va_A [(h0, .inr (2, [.int 0, .int 0, .int 0]))] sz) := by
  refine Met.ofW (cc := cX2_type) (maxL := 2) (ret := none) (by decide) rfl ?_
  intro p e s m args below meth c s₁ B hml hv
  obtain ⟨rfl, hsz, hP, hK, hD0⟩ := hv
  have hx := B.exec
  have hb := B.bytes
  have hr := B.returns
  have hts := atoms_spec (ws := wsX2_type) B.pre
  have hown : s.vm.findClass RX2 = some m.cls := findClass_of_methodNamed B.named
  have hlocks := B.notSynchronized
  subst hsz
  have hD := hD0.self (sz := s.heap.size)
  generalize hAe : va_A [(h0, .inr (2, [.int 0, .int 0, .int 0]))] s.heap.size = A at hD ⊢
  have hA : ∀ q : Nat, s.heap.size ≤ q → A q := fun q h => by rw [← hAe]; exact Or.inr h
  have hS0 : ∀ G : Heap, s.heap = G → va_S A s.heap G [] := fun G h => by subst h; exact va_S.rf
  generalize hHe : s.heap = H at hP ⊢
  have hS := hS0 H hHe
  have hP : va_P (dC, dI) vwCl [(h0, .inr (2, [.int 0, .int 0, .int 0]))] H := hP
  have hD : va_D A [(h0, .inr (2, [.int 0, .int 0, .int 0]))] := hD
  have hK : va_K (dC, dI) vwCl [] s := hK
  have hl := lv_entry ([.ref h0, .int p0]) (n := 2) (Nat.le_of_ble_eq_true rfl)
  rw [lg_entry_eq]
  generalize (lg_sl ([.ref h0, .int p0]) ++ List.replicate (2 - (lg_sl ([.ref h0, .int p0])).length) Slot.unset).toArray = ls at hl ⊢
  have hl : lv_has ls 2 [(0, .ref h0), (1, .int p0)] := hl
  refine lv_aload_n hx hb dX2_type_0 rfl (lv_at hl 0 rfl) ?_
  refine lv_iload_n hx hb dX2_type_1 rfl (lv_at hl 1 rfl) ?_
  refine va_put (D := (dC, dI)) (ci := 2) (v := .int p0) (ty := .int) (C := RX2) (T := TX2) (N := 3) hx hb hts (by decide +kernel) tyX2 tyX2_ok nmX2 hown hK hP hD hS 0 rfl rfl 2 (by decide) (hts (.fieldLink RX2 7 "UnibusMachine$Keyboard" "character" "I") (by decide +kernel)) (fun _ h9 => h9) rfl (by decide +kernel) rfl rfl (Nat.le_of_ble_eq_true rfl) dX2_type_2 (fun H locs hP hD hS => ?_)
  have hP : va_P (dC, dI) vwCl [(h0, .inr (2, [.int 0, .int 0, .int p0]))] H := hP
  have hD : va_D A [(h0, .inr (2, [.int 0, .int 0, .int p0]))] := hD
  refine lv_aload_n hx hb dX2_type_5 rfl (lv_at hl 0 rfl) ?_
  refine lv_aload_n hx hb dX2_type_6 rfl (lv_at hl 0 rfl) ?_
  refine va_get (D := (dC, dI)) (ci := 2) (v := .int 0) (C := RX2) (T := TX2) (N := 3) hx hb hts (by decide +kernel) hown hK hP 0 rfl rfl 0 (by decide) (hts (.fieldLink RX2 13 "UnibusMachine$Keyboard" "bits" "I") (by decide +kernel)) (u_same (hts (.sameField "UnibusMachine$Keyboard" "UnibusMachine$Line" "bits" "I") (by decide +kernel))) rfl dX2_type_7 ?_
  refine lv_sipush (v := 128) hx hb dX2_type_10 (by decide) ?_
  refine lv_ior hx hb dX2_type_13 ?_
  refine lv_topi (fun y1 ey1 => ?_)
  obtain rfl : y1 = 128 := by rw [ey1]; decide
  have hPc := hP.sub (ws' := [(h0, .inr (2, [.int 0, .int 0, .int p0]))]) [0] rfl
  have hDc := hD.sub (ws' := [(h0, .inr (2, [.int 0, .int 0, .int p0]))]) [0] (by decide) rfl
  have hKc := hK.sub (tys' := []) [] rfl
  have hFc := va_free (wc := [(h0, .inr (2, [.int 0, .int 0, .int p0]))]) hD hS hA [0] rfl
  refine va_callv (va_runU (As := [.int 128]) (rest := []) ⟨hx, hb, hml, hown, hts⟩ (c_become l dC dI h0 p0 H.size) (va_cwU 1 hts gX2_type_X3_become_u16X2 rfl rfl rfl rfl (by decide +kernel) ⟨Nat.le_of_ble_eq_true rfl, Nat.le_of_ble_eq_true rfl⟩) ⟨fun a U g mk q => by obtain ⟨q0, q1, qP, qK, qD⟩ := q; exact ⟨q0, q1, qP, va_K.moved (u := U) (U := U.calling g mk a) (Vm.Alike.refl U.vm) qK, qD⟩, va_recv hKc hPc (ci := 2) (q0 := 0) rfl rfl, fun U hU hW => ⟨rfl, by rw [hU], by rw [hU]; exact hPc, va_K.moved hW.alike hKc, hDc.weaken (fun _ _ _ _ => trivial)⟩⟩ rfl rfl hl.1 rfl (lv_room (Nat.le_of_ble_eq_true rfl)) dX2_type_14 ⟨Nat.le_of_ble_eq_true rfl, Nat.le_of_ble_eq_true rfl⟩) hS (fun q _ h => hFc q h) hFc (fun u3 t H1 locs ht hvm hw hB hz1 hk1 hS => ?_)
  obtain ⟨hP1, hK1, hD1⟩ := hB
  rw [ht] at hP1
  have hK1 := va_K.moved hvm.symm hK1
  try dsimp only at hw
  obtain ⟨hP, hD⟩ := va_join (wr := []) (w1 := []) hP hD [0] [] rfl rfl (by decide) (by decide) hk1 hFc hP1 hD1
  have hK := (hK.sub (tys' := []) [] rfl).app hK1
  generalize H1 = H at hP hS ⊢
  have hP : va_P (dC, dI) vwCl [] H := hP
  have hD : va_D A [] := hD
  have hK : va_K (dC, dI) vwCl [] s := hK
  have hP9 := hP.sub (ws' := []) [] rfl
  have hD9 := hD.sub (ws' := []) [] (by decide) rfl
  have hK9 := hK.sub (tys' := []) [] rfl
  exact W.vret hx hb hr (fun t ht hW => ⟨⟨(), rfl, trivial, by rw [ht]; exact hP9, va_K.moved hW.alike hK9, hD9⟩, hS.F ht⟩) hS.2.2 dX2_type_17
set_option maxHeartbeats 4000000 in
set_option maxRecDepth 100000 in
theorem c_key (l : Launch) (dC : Nat → ClassId) (dI : Nat → Nat → Nat) (h0 : Nat) (oB : Nat) (oP : Nat) (am : Nat) (oM : Nat) (oS : Nat) (oK : Nat) (oL : Nat) (oD : Nat) (p0 : Int32) (sz : Nat) (hlt : l.stackTraces = false) : vx_Met l yX8_key wsX8_key ({ frames := 6, cells := 1, slots := 6, locals := 81 } : Room) (va_Pc [.ref h0, .int p0] (fun U => U.heap.size = sz ∧ va_P (dC, dI) vwCl [(h0, .inr (7, [.ref oB, .ref oP])), (oB, .inr (0, [.ref am, .ref oM, .ref oS, .ref oK, .ref oL, .ref oD])), (oK, .inr (2, [.int 0, .int 0, .int 0]))] U.heap ∧ va_K (dC, dI) vwCl [] U ∧ va_D (fun _ => True) [(h0, .inr (7, [.ref oB, .ref oP])), (oB, .inr (0, [.ref am, .ref oM, .ref oS, .ref oK, .ref oL, .ref oD])), (oK, .inr (2, [.int 0, .int 0, .int 0]))] ∧ vx_Zq Bundle.tN "UNASSIGNED_STACK" Bundle.steD (va_A [(h0, .inr (7, [.ref oB, .ref oP])), (oB, .inr (0, [.ref am, .ref oM, .ref oS, .ref oK, .ref oL, .ref oD])), (oK, .inr (2, [.int 0, .int 0, .int 0]))] sz) U U.heap ∧ vx_Zq Bundle.tN "SUPPRESSED_SENTINEL" Bundle.listD (va_A [(h0, .inr (7, [.ref oB, .ref oP])), (oB, .inr (0, [.ref am, .ref oM, .ref oS, .ref oK, .ref oL, .ref oD])), (oK, .inr (2, [.int 0, .int 0, .int 0]))] sz) U U.heap ∧ va_Nw (.declares (Bundle.init0 "java/lang/RuntimeException")) U ∧ va_Nw (.declares (Bundle.init0 "java/lang/Exception")) U ∧ va_Nw (.declares (Bundle.init0 Bundle.tN)) U ∧ va_Nw (.castable "java/lang/IllegalArgumentException" "java/lang/IllegalArgumentException") U)) (va_Qv (fun (u : Unit) => 0 ≤ p0.toInt ∧ p0.toInt ≤ 255) (fun (u : Unit) (t : State) => va_P (dC, dI) vwCl [] t.heap ∧ va_K (dC, dI) vwCl [] t ∧ va_D (va_A [(h0, .inr (7, [.ref oB, .ref oP])), (oB, .inr (0, [.ref am, .ref oM, .ref oS, .ref oK, .ref oL, .ref oD])), (oK, .inr (2, [.int 0, .int 0, .int 0]))] sz) []) (va_A [(h0, .inr (7, [.ref oB, .ref oP])), (oB, .inr (0, [.ref am, .ref oM, .ref oS, .ref oK, .ref oL, .ref oD])), (oK, .inr (2, [.int 0, .int 0, .int 0]))] sz)) (vx_X (fun _ : Unit => True) (fun (E : String) (_ : Unit) (_ : State) => E = "java/lang/IllegalArgumentException" ∧ ¬ (0 ≤ p0.toInt ∧ p0.toInt ≤ 255)) (va_A [(h0, .inr (7, [.ref oB, .ref oP])), (oB, .inr (0, [.ref am, .ref oM, .ref oS, .ref oK, .ref oL, .ref oD])), (oK, .inr (2, [.int 0, .int 0, .int 0]))] sz)) 1 6 (va_A [(h0, .inr (7, [.ref oB, .ref oP])), (oB, .inr (0, [.ref am, .ref oM, .ref oS, .ref oK, .ref oL, .ref oD])), (oK, .inr (2, [.int 0, .int 0, .int 0]))] sz) := by
  refine vx_ofW (cc := cX8_key) (maxL := 2) (ret := none) (by decide) rfl ?_
  intro p e s m args below meth c s₁ B hml htab hv
  obtain ⟨rfl, hsz, hP, hK, hD0, hZU, hZN, hd1, hd2, hd3, hcI⟩ := hv
  have hx := B.exec
  have hb := B.bytes
  have hr := B.returns
  have hts := atoms_spec (ws := wsX8_key) B.pre
  have hown : s.vm.findClass RX8 = some m.cls := findClass_of_methodNamed B.named
  have hlocks := B.notSynchronized
  subst hsz
  have hD := hD0.self (sz := s.heap.size)
  generalize hAe : va_A [(h0, .inr (7, [.ref oB, .ref oP])), (oB, .inr (0, [.ref am, .ref oM, .ref oS, .ref oK, .ref oL, .ref oD])), (oK, .inr (2, [.int 0, .int 0, .int 0]))] s.heap.size = A at hD hZU hZN ⊢
  have hA : ∀ q : Nat, s.heap.size ≤ q → A q := fun q h => by rw [← hAe]; exact Or.inr h
  have hS0 : ∀ G : Heap, s.heap = G → va_S A s.heap G [] := fun G h => by subst h; exact va_S.rf
  generalize hHe : s.heap = H at hP ⊢
  have hS := hS0 H hHe
  have hP : va_P (dC, dI) vwCl [(h0, .inr (7, [.ref oB, .ref oP])), (oB, .inr (0, [.ref am, .ref oM, .ref oS, .ref oK, .ref oL, .ref oD])), (oK, .inr (2, [.int 0, .int 0, .int 0]))] H := hP
  have hD : va_D A [(h0, .inr (7, [.ref oB, .ref oP])), (oB, .inr (0, [.ref am, .ref oM, .ref oS, .ref oK, .ref oL, .ref oD])), (oK, .inr (2, [.int 0, .int 0, .int 0]))] := hD
  have hK : va_K (dC, dI) vwCl [] s := hK
  have hl := lv_entry ([.ref h0, .int p0]) (n := 2) (Nat.le_of_ble_eq_true rfl)
  rw [lg_entry_eq]
  generalize (lg_sl ([.ref h0, .int p0]) ++ List.replicate (2 - (lg_sl ([.ref h0, .int p0])).length) Slot.unset).toArray = ls at hl ⊢
  have hl : lv_has ls 2 [(0, .ref h0), (1, .int p0)] := hl
  have kk0 : (0 : Int32).toInt = 0 := by decide
  have kk255 : (255 : Int32).toInt = 255 := by decide
  refine lv_iload_n hx hb dX8_key_0 rfl (lv_at hl 1 rfl) ?_
  refine lv_if_lt (tgt := 11) hx hb dX8_key_1 (by decide) (fun c1 => ?_) (fun c1 => ?_)
  · have c1 := fz_lt.mp c1
    have kk0 : (0 : Int32).toInt = 0 := by decide
    have hpx9 : "java/lang/IllegalArgumentException" = "java/lang/IllegalArgumentException" ∧ ¬ (0 ≤ p0.toInt ∧ p0.toInt ≤ 255) := by exact ⟨rfl, by omega⟩
    exact vx_throw0 (names := ["java/lang/RuntimeException", "java/lang/Exception"]) (cls := "java/lang/IllegalArgumentException") (ik := 32) (ic := 34) (A := A) hx hb hlt hown (by decide) (by decide) (hts (.classLink RX8 32 "java/lang/IllegalArgumentException") (by decide +kernel)) (hts (.initialized "java/lang/IllegalArgumentException") (by decide +kernel)) (vx_hat (fun w h => hts w (List.mem_cons_of_mem _ (List.mem_append_right _ h))) (by decide +kernel) (vx_c (va_Nw.use rfl hcI) (vx_c (va_Nw.use rfl hd1) (vx_c (va_Nw.use rfl hd2) (vx_c (va_Nw.use rfl hd3) vx_n))))) (by decide +kernel) hZU hZN hS (by rw [hml]; exact hl.1) dX8_key_11 dX8_key_14 dX8_key_15 dX8_key_18 (fun x h => (htab x h).elim) (Nat.le_of_ble_eq_true rfl) (Nat.le_of_ble_eq_true rfl) (Nat.le_of_ble_eq_true rfl) (Nat.le_of_ble_eq_true rfl) hlocks (fun t hal hz hk => ⟨(), trivial, hpx9, Nat.le_trans hS.1 hz, fun q h1 h2 => (hk q (Nat.lt_of_lt_of_le h1 hS.1)).trans (hS.2.1 q h1 h2)⟩) hS.2.2 (Nat.le_of_ble_eq_true rfl) (Nat.le_of_ble_eq_true rfl)
  · have c1 := fz_nlt.mp c1
    have kk0 : (0 : Int32).toInt = 0 := by decide
    refine lv_iload_n hx hb dX8_key_4 rfl (lv_at hl 1 rfl) ?_
    refine lv_sipush (v := 255) hx hb dX8_key_5 (by decide) ?_
    refine lv_icmp_le (tgt := 19) hx hb dX8_key_8 (by decide) (fun c2 => ?_) (fun c2 => ?_)
    · have c2 := fz_le.mp c2
      have kk255 : (255 : Int32).toInt = 255 := by decide
      refine lv_aload_n hx hb dX8_key_19 rfl (lv_at hl 0 rfl) ?_
      refine va_get (D := (dC, dI)) (ci := 7) (v := .ref oB) (C := RX8) (T := TX8) (N := 2) hx hb hts (by decide +kernel) hown hK hP 0 rfl rfl 0 (by decide) (hts (.fieldLink RX8 10 "UnibusMachine" "bus" "LUnibusMachine$Bus;") (by decide +kernel)) (fun _ h9 => h9) rfl dX8_key_20 ?_
      refine va_get (D := (dC, dI)) (ci := 0) (v := .ref oK) (C := RX0) (T := TX0) (N := 6) hx hb hts (by decide +kernel) hown hK hP 1 rfl rfl 3 (by decide) (hts (.fieldLink RX8 82 "UnibusMachine$Bus" "keyboard" "LUnibusMachine$Keyboard;") (by decide +kernel)) (fun _ h9 => h9) rfl dX8_key_23 ?_
      refine lv_iload_n hx hb dX8_key_26 rfl (lv_at hl 1 rfl) ?_
      have hPc := hP.sub (ws' := [(oK, .inr (2, [.int 0, .int 0, .int 0]))]) [2] rfl
      have hDc := hD.sub (ws' := [(oK, .inr (2, [.int 0, .int 0, .int 0]))]) [2] (by decide) rfl
      have hKc := hK.sub (tys' := []) [] rfl
      have hFc := va_free (wc := [(oK, .inr (2, [.int 0, .int 0, .int 0]))]) hD hS hA [2] rfl
      refine va_callv (va_runV (As := [.int p0]) (rest := []) ⟨hx, hb, hml, hown, hts⟩ (c_type l dC dI oK p0 H.size) (cwV 1 hts gX8_key_X2_type rfl rfl rfl (by decide +kernel) ⟨Nat.le_of_ble_eq_true rfl, Nat.le_of_ble_eq_true rfl⟩) ⟨fun a U g mk q => by obtain ⟨q0, q1, qP, qK, qD⟩ := q; exact ⟨q0, q1, qP, va_K.moved (u := U) (U := U.calling g mk a) (Vm.Alike.refl U.vm) qK, qD⟩, va_recv hKc hPc (ci := 2) (q0 := 0) rfl rfl, fun U hU hW => ⟨rfl, by rw [hU], by rw [hU]; exact hPc, va_K.moved hW.alike hKc, hDc.weaken (fun _ _ _ _ => trivial)⟩⟩ rfl rfl hl.1 rfl (lv_room (Nat.le_of_ble_eq_true rfl)) dX8_key_27 ⟨Nat.le_of_ble_eq_true rfl, Nat.le_of_ble_eq_true rfl⟩) hS (fun q _ h => hFc q h) hFc (fun u4 t H1 locs ht hvm hw hB hz1 hk1 hS => ?_)
      obtain ⟨hP1, hK1, hD1⟩ := hB
      rw [ht] at hP1
      have hK1 := va_K.moved hvm.symm hK1
      try dsimp only at hw
      obtain ⟨hP, hD⟩ := va_join (wr := [(h0, .inr (7, [.ref oB, .ref oP])), (oB, .inr (0, [.ref am, .ref oM, .ref oS, .ref oK, .ref oL, .ref oD]))]) (w1 := []) hP hD [2] [0, 1] rfl rfl (by decide) (by decide) hk1 hFc hP1 hD1
      have hK := (hK.sub (tys' := []) [] rfl).app hK1
      generalize H1 = H at hP hS ⊢
      have hP : va_P (dC, dI) vwCl [(h0, .inr (7, [.ref oB, .ref oP])), (oB, .inr (0, [.ref am, .ref oM, .ref oS, .ref oK, .ref oL, .ref oD]))] H := hP
      have hD : va_D A [(h0, .inr (7, [.ref oB, .ref oP])), (oB, .inr (0, [.ref am, .ref oM, .ref oS, .ref oK, .ref oL, .ref oD]))] := hD
      have hK : va_K (dC, dI) vwCl [] s := hK
      have hP9 := hP.sub (ws' := []) [] rfl
      have hD9 := hD.sub (ws' := []) [] (by decide) rfl
      have hK9 := hK.sub (tys' := []) [] rfl
      refine vx_ret ?_
      refine W.widen (k := 1) (n := 6) (Nat.le_of_ble_eq_true rfl) (Nat.le_of_ble_eq_true rfl) ?_
      exact W.vret hx hb hr (fun t ht hW => ⟨⟨(), rfl, (by omega), by rw [ht]; exact hP9, va_K.moved hW.alike hK9, hD9⟩, hS.F ht⟩) hS.2.2 dX8_key_30
    · have c2 := fz_nle.mp c2
      have kk255 : (255 : Int32).toInt = 255 := by decide
      have hpx9 : "java/lang/IllegalArgumentException" = "java/lang/IllegalArgumentException" ∧ ¬ (0 ≤ p0.toInt ∧ p0.toInt ≤ 255) := by exact ⟨rfl, by omega⟩
      exact vx_throw0 (names := ["java/lang/RuntimeException", "java/lang/Exception"]) (cls := "java/lang/IllegalArgumentException") (ik := 32) (ic := 34) (A := A) hx hb hlt hown (by decide) (by decide) (hts (.classLink RX8 32 "java/lang/IllegalArgumentException") (by decide +kernel)) (hts (.initialized "java/lang/IllegalArgumentException") (by decide +kernel)) (vx_hat (fun w h => hts w (List.mem_cons_of_mem _ (List.mem_append_right _ h))) (by decide +kernel) (vx_c (va_Nw.use rfl hcI) (vx_c (va_Nw.use rfl hd1) (vx_c (va_Nw.use rfl hd2) (vx_c (va_Nw.use rfl hd3) vx_n))))) (by decide +kernel) hZU hZN hS (by rw [hml]; exact hl.1) dX8_key_11 dX8_key_14 dX8_key_15 dX8_key_18 (fun x h => (htab x h).elim) (Nat.le_of_ble_eq_true rfl) (Nat.le_of_ble_eq_true rfl) (Nat.le_of_ble_eq_true rfl) (Nat.le_of_ble_eq_true rfl) hlocks (fun t hal hz hk => ⟨(), trivial, hpx9, Nat.le_trans hS.1 hz, fun q h1 h2 => (hk q (Nat.lt_of_lt_of_le h1 hS.1)).trans (hS.2.1 q h1 h2)⟩) hS.2.2 (Nat.le_of_ble_eq_true rfl) (Nat.le_of_ble_eq_true rfl)
set_option maxHeartbeats 4000000 in
set_option maxRecDepth 100000 in
theorem c_printed (l : Launch) (dC : Nat → ClassId) (dI : Nat → Nat → Nat) (h0 : Nat) (oB : Nat) (oP : Nat) (am : Nat) (oM : Nat) (oS : Nat) (oK : Nat) (oL : Nat) (oD : Nat) (ap : Nat) (tp : ClassId) (p0 : Int32) (sz : Nat) (hlt : l.stackTraces = false) : vx_Met l yX8_printed wsX8_printed ({ frames := 6, cells := 1, slots := 6, locals := 81 } : Room) (va_Pc [.ref h0, .int p0] (fun U => U.heap.size = sz ∧ va_P (dC, dI) vwCl [(h0, .inr (7, [.ref oB, .ref oP])), (oB, .inr (0, [.ref am, .ref oM, .ref oS, .ref oK, .ref oL, .ref oD])), (oL, .inr (4, [.int 128, .int 0, .ref ap, .int 0, .int 0, .int 0, .int 0])), (ap, .inl (tp, 32, .inl (fun _ => 0)))] U.heap ∧ va_K (dC, dI) vwCl [(tp, .int)] U ∧ va_D (fun _ => True) [(h0, .inr (7, [.ref oB, .ref oP])), (oB, .inr (0, [.ref am, .ref oM, .ref oS, .ref oK, .ref oL, .ref oD])), (oL, .inr (4, [.int 128, .int 0, .ref ap, .int 0, .int 0, .int 0, .int 0])), (ap, .inl (tp, 32, .inl (fun _ => 0)))] ∧ vx_Zq Bundle.tN "UNASSIGNED_STACK" Bundle.steD (va_A [(h0, .inr (7, [.ref oB, .ref oP])), (oB, .inr (0, [.ref am, .ref oM, .ref oS, .ref oK, .ref oL, .ref oD])), (oL, .inr (4, [.int 128, .int 0, .ref ap, .int 0, .int 0, .int 0, .int 0])), (ap, .inl (tp, 32, .inl (fun _ => 0)))] sz) U U.heap ∧ vx_Zq Bundle.tN "SUPPRESSED_SENTINEL" Bundle.listD (va_A [(h0, .inr (7, [.ref oB, .ref oP])), (oB, .inr (0, [.ref am, .ref oM, .ref oS, .ref oK, .ref oL, .ref oD])), (oL, .inr (4, [.int 128, .int 0, .ref ap, .int 0, .int 0, .int 0, .int 0])), (ap, .inl (tp, 32, .inl (fun _ => 0)))] sz) U U.heap ∧ va_Nw (.declares (Bundle.init0 "java/lang/RuntimeException")) U ∧ va_Nw (.declares (Bundle.init0 "java/lang/Exception")) U ∧ va_Nw (.declares (Bundle.init0 Bundle.tN)) U ∧ va_Nw (.castable "java/lang/IndexOutOfBoundsException" "java/lang/IndexOutOfBoundsException") U)) (va_Qi (fun (r : Int32) (u : Unit) => r = 0 ∧ p0.toInt = -1) (fun (u : Unit) (t : State) => va_P (dC, dI) vwCl [] t.heap ∧ va_K (dC, dI) vwCl [] t ∧ va_D (va_A [(h0, .inr (7, [.ref oB, .ref oP])), (oB, .inr (0, [.ref am, .ref oM, .ref oS, .ref oK, .ref oL, .ref oD])), (oL, .inr (4, [.int 128, .int 0, .ref ap, .int 0, .int 0, .int 0, .int 0])), (ap, .inl (tp, 32, .inl (fun _ => 0)))] sz) []) (va_A [(h0, .inr (7, [.ref oB, .ref oP])), (oB, .inr (0, [.ref am, .ref oM, .ref oS, .ref oK, .ref oL, .ref oD])), (oL, .inr (4, [.int 128, .int 0, .ref ap, .int 0, .int 0, .int 0, .int 0])), (ap, .inl (tp, 32, .inl (fun _ => 0)))] sz)) (vx_X (fun _ : Unit => True) (fun (E : String) (_ : Unit) (_ : State) => E = "java/lang/IndexOutOfBoundsException" ∧ ¬ (p0.toInt = -1)) (va_A [(h0, .inr (7, [.ref oB, .ref oP])), (oB, .inr (0, [.ref am, .ref oM, .ref oS, .ref oK, .ref oL, .ref oD])), (oL, .inr (4, [.int 128, .int 0, .ref ap, .int 0, .int 0, .int 0, .int 0])), (ap, .inl (tp, 32, .inl (fun _ => 0)))] sz)) 1 6 (va_A [(h0, .inr (7, [.ref oB, .ref oP])), (oB, .inr (0, [.ref am, .ref oM, .ref oS, .ref oK, .ref oL, .ref oD])), (oL, .inr (4, [.int 128, .int 0, .ref ap, .int 0, .int 0, .int 0, .int 0])), (ap, .inl (tp, 32, .inl (fun _ => 0)))] sz) := by
  refine vx_ofW (cc := cX8_printed) (maxL := 3) (ret := (some .int)) (by decide) rfl ?_
  intro p e s m args below meth c s₁ B hml htab hv
  obtain ⟨rfl, hsz, hP, hK, hD0, hZU, hZN, hd1, hd2, hd3, hcB⟩ := hv
  have hx := B.exec
  have hb := B.bytes
  have hr := B.returns
  have hts := atoms_spec (ws := wsX8_printed) B.pre
  have hown : s.vm.findClass RX8 = some m.cls := findClass_of_methodNamed B.named
  have hlocks := B.notSynchronized
  subst hsz
  have hD := hD0.self (sz := s.heap.size)
  generalize hAe : va_A [(h0, .inr (7, [.ref oB, .ref oP])), (oB, .inr (0, [.ref am, .ref oM, .ref oS, .ref oK, .ref oL, .ref oD])), (oL, .inr (4, [.int 128, .int 0, .ref ap, .int 0, .int 0, .int 0, .int 0])), (ap, .inl (tp, 32, .inl (fun _ => 0)))] s.heap.size = A at hD hZU hZN ⊢
  have hA : ∀ q : Nat, s.heap.size ≤ q → A q := fun q h => by rw [← hAe]; exact Or.inr h
  have hS0 : ∀ G : Heap, s.heap = G → va_S A s.heap G [] := fun G h => by subst h; exact va_S.rf
  generalize hHe : s.heap = H at hP ⊢
  have hS := hS0 H hHe
  have hP : va_P (dC, dI) vwCl [(h0, .inr (7, [.ref oB, .ref oP])), (oB, .inr (0, [.ref am, .ref oM, .ref oS, .ref oK, .ref oL, .ref oD])), (oL, .inr (4, [.int 128, .int 0, .ref ap, .int 0, .int 0, .int 0, .int 0])), (ap, .inl (tp, 32, .inl (fun _ => 0)))] H := hP
  have hD : va_D A [(h0, .inr (7, [.ref oB, .ref oP])), (oB, .inr (0, [.ref am, .ref oM, .ref oS, .ref oK, .ref oL, .ref oD])), (oL, .inr (4, [.int 128, .int 0, .ref ap, .int 0, .int 0, .int 0, .int 0])), (ap, .inl (tp, 32, .inl (fun _ => 0)))] := hD
  have hK : va_K (dC, dI) vwCl [(tp, .int)] s := hK
  have hl := lv_entry ([.ref h0, .int p0]) (n := 3) (Nat.le_of_ble_eq_true rfl)
  rw [lg_entry_eq]
  generalize (lg_sl ([.ref h0, .int p0]) ++ List.replicate (3 - (lg_sl ([.ref h0, .int p0])).length) Slot.unset).toArray = ls at hl ⊢
  have hl : lv_has ls 3 [(0, .ref h0), (1, .int p0)] := hl
  have kk0 : (0 : Int32).toInt = 0 := by decide
  have kkm1 : ((-1) : Int32).toInt = -1 := by decide
  have kk32 : (32 : Int32).toInt = 32 := by decide
  refine lv_aload_n hx hb dX8_printed_0 rfl (lv_at hl 0 rfl) ?_
  refine va_get (D := (dC, dI)) (ci := 7) (v := .ref oB) (C := RX8) (T := TX8) (N := 2) hx hb hts (by decide +kernel) hown hK hP 0 rfl rfl 0 (by decide) (hts (.fieldLink RX8 10 "UnibusMachine" "bus" "LUnibusMachine$Bus;") (by decide +kernel)) (fun _ h9 => h9) rfl dX8_printed_1 ?_
  refine va_get (D := (dC, dI)) (ci := 0) (v := .ref oL) (C := RX0) (T := TX0) (N := 6) hx hb hts (by decide +kernel) hown hK hP 1 rfl rfl 4 (by decide) (hts (.fieldLink RX8 91 "UnibusMachine$Bus" "printer" "LUnibusMachine$Printer;") (by decide +kernel)) (fun _ h9 => h9) rfl dX8_printed_4 ?_
  refine lv_astore_n (lv' := [(2, .ref oL), (0, .ref h0), (1, .int p0)]) hx hb dX8_printed_7 rfl hl (by decide) rfl (fun ls hl => ?_)
  refine lv_iload_n hx hb dX8_printed_8 rfl (lv_at hl 2 rfl) ?_
  refine lv_iconst (v := (-1)) hx hb dX8_printed_9 (by decide) ?_
  refine lv_icmp_lt (tgt := 27) hx hb dX8_printed_10 (by decide) (fun c1 => ?_) (fun c1 => ?_)
  · have c1 := fz_lt.mp c1
    have kkm1 : ((-1) : Int32).toInt = -1 := by decide
    have hpx9 : "java/lang/IndexOutOfBoundsException" = "java/lang/IndexOutOfBoundsException" ∧ ¬ (p0.toInt = -1) := by exact ⟨rfl, by omega⟩
    exact vx_throw0 (names := ["java/lang/RuntimeException", "java/lang/Exception"]) (cls := "java/lang/IndexOutOfBoundsException") (ik := 100) (ic := 102) (A := A) hx hb hlt hown (by decide) (by decide) (hts (.classLink RX8 100 "java/lang/IndexOutOfBoundsException") (by decide +kernel)) (hts (.initialized "java/lang/IndexOutOfBoundsException") (by decide +kernel)) (vx_hat (fun w h => hts w (List.mem_cons_of_mem _ (List.mem_append_right _ h))) (by decide +kernel) (vx_c (va_Nw.use rfl hcB) (vx_c (va_Nw.use rfl hd1) (vx_c (va_Nw.use rfl hd2) (vx_c (va_Nw.use rfl hd3) vx_n))))) (by decide +kernel) hZU hZN hS (by rw [hml]; exact hl.1) dX8_printed_27 dX8_printed_30 dX8_printed_31 dX8_printed_34 (fun x h => (htab x h).elim) (Nat.le_of_ble_eq_true rfl) (Nat.le_of_ble_eq_true rfl) (Nat.le_of_ble_eq_true rfl) (Nat.le_of_ble_eq_true rfl) hlocks (fun t hal hz hk => ⟨(), trivial, hpx9, Nat.le_trans hS.1 hz, fun q h1 h2 => (hk q (Nat.lt_of_lt_of_le h1 hS.1)).trans (hS.2.1 q h1 h2)⟩) hS.2.2 (Nat.le_of_ble_eq_true rfl) (Nat.le_of_ble_eq_true rfl)
  · have c1 := fz_nlt.mp c1
    have kkm1 : ((-1) : Int32).toInt = -1 := by decide
    refine lv_iload_n hx hb dX8_printed_13 rfl (lv_at hl 2 rfl) ?_
    refine lv_bipush (v := 32) hx hb dX8_printed_14 (by decide) ?_
    refine lv_icmp_ge (tgt := 27) hx hb dX8_printed_16 (by decide) (fun c2 => ?_) (fun c2 => ?_)
    · have c2 := fz_le.mp c2
      have kk32 : (32 : Int32).toInt = 32 := by decide
      have hpx9 : "java/lang/IndexOutOfBoundsException" = "java/lang/IndexOutOfBoundsException" ∧ ¬ (p0.toInt = -1) := by exact ⟨rfl, by omega⟩
      exact vx_throw0 (names := ["java/lang/RuntimeException", "java/lang/Exception"]) (cls := "java/lang/IndexOutOfBoundsException") (ik := 100) (ic := 102) (A := A) hx hb hlt hown (by decide) (by decide) (hts (.classLink RX8 100 "java/lang/IndexOutOfBoundsException") (by decide +kernel)) (hts (.initialized "java/lang/IndexOutOfBoundsException") (by decide +kernel)) (vx_hat (fun w h => hts w (List.mem_cons_of_mem _ (List.mem_append_right _ h))) (by decide +kernel) (vx_c (va_Nw.use rfl hcB) (vx_c (va_Nw.use rfl hd1) (vx_c (va_Nw.use rfl hd2) (vx_c (va_Nw.use rfl hd3) vx_n))))) (by decide +kernel) hZU hZN hS (by rw [hml]; exact hl.1) dX8_printed_27 dX8_printed_30 dX8_printed_31 dX8_printed_34 (fun x h => (htab x h).elim) (Nat.le_of_ble_eq_true rfl) (Nat.le_of_ble_eq_true rfl) (Nat.le_of_ble_eq_true rfl) (Nat.le_of_ble_eq_true rfl) hlocks (fun t hal hz hk => ⟨(), trivial, hpx9, Nat.le_trans hS.1 hz, fun q h1 h2 => (hk q (Nat.lt_of_lt_of_le h1 hS.1)).trans (hS.2.1 q h1 h2)⟩) hS.2.2 (Nat.le_of_ble_eq_true rfl) (Nat.le_of_ble_eq_true rfl)
    · have c2 := fz_nle.mp c2
      have kk32 : (32 : Int32).toInt = 32 := by decide
      refine lv_iload_n hx hb dX8_printed_19 rfl (lv_at hl 2 rfl) ?_
      refine lv_aload_n hx hb dX8_printed_20 rfl (lv_at hl 0 rfl) ?_
      refine va_get (D := (dC, dI)) (ci := 4) (v := .int 0) (C := RX5) (T := TX5) (N := 7) hx hb hts (by decide +kernel) hown hK hP 2 rfl rfl 3 (by decide) (hts (.fieldLink RX8 97 "UnibusMachine$Printer" "count" "I") (by decide +kernel)) (fun _ h9 => h9) rfl dX8_printed_21 ?_
      refine lv_icmp_lt (tgt := 35) hx hb dX8_printed_24 (by decide) (fun c3 => ?_) (fun c3 => ?_)
      · have c3 := fz_lt.mp c3
        have kk0 : (0 : Int32).toInt = 0 := by decide
        refine lv_iload_n hx hb dX8_printed_35 rfl (lv_at hl 2 rfl) ?_
        refine lv_iconst (v := (-1)) hx hb dX8_printed_36 (by decide) ?_
        refine lv_icmp_ne (tgt := 47) hx hb dX8_printed_37 (by decide) (fun c4 => ?_) (fun c4 => ?_)
        · have c4 := fz_ne.mp c4
          have kkm1 : ((-1) : Int32).toInt = -1 := by decide
          exact False.elim (by omega)
        · have c4 := fz_eq.mp c4
          have kkm1 : ((-1) : Int32).toInt = -1 := by decide
          refine lv_aload_n hx hb dX8_printed_40 rfl (lv_at hl 0 rfl) ?_
          refine va_get (D := (dC, dI)) (ci := 4) (v := .int 0) (C := RX5) (T := TX5) (N := 7) hx hb hts (by decide +kernel) hown hK hP 2 rfl rfl 3 (by decide) (hts (.fieldLink RX8 97 "UnibusMachine$Printer" "count" "I") (by decide +kernel)) (fun _ h9 => h9) rfl dX8_printed_41 ?_
          refine lv_goto (tgt := 63) hx hb dX8_printed_44 (by decide) ?_
          have hP9 := hP.sub (ws' := []) [] rfl
          have hD9 := hD.sub (ws' := []) [] (by decide) rfl
          have hK9 := hK.sub (tys' := []) [] rfl
          refine vx_ret ?_
          refine W.widen (k := 1) (n := 6) (Nat.le_of_ble_eq_true rfl) (Nat.le_of_ble_eq_true rfl) ?_
          exact W.iret (v := 0) hx hb hr (fun t ht hW => ⟨⟨0, (), rfl, ⟨rfl, by omega⟩, by rw [ht]; exact hP9, va_K.moved hW.alike hK9, hD9⟩, hS.F ht⟩) hS.2.2 dX8_printed_63
      · have c3 := fz_nlt.mp c3
        have kk0 : (0 : Int32).toInt = 0 := by decide
        have hpx9 : "java/lang/IndexOutOfBoundsException" = "java/lang/IndexOutOfBoundsException" ∧ ¬ (p0.toInt = -1) := by exact ⟨rfl, by omega⟩
        exact vx_throw0 (names := ["java/lang/RuntimeException", "java/lang/Exception"]) (cls := "java/lang/IndexOutOfBoundsException") (ik := 100) (ic := 102) (A := A) hx hb hlt hown (by decide) (by decide) (hts (.classLink RX8 100 "java/lang/IndexOutOfBoundsException") (by decide +kernel)) (hts (.initialized "java/lang/IndexOutOfBoundsException") (by decide +kernel)) (vx_hat (fun w h => hts w (List.mem_cons_of_mem _ (List.mem_append_right _ h))) (by decide +kernel) (vx_c (va_Nw.use rfl hcB) (vx_c (va_Nw.use rfl hd1) (vx_c (va_Nw.use rfl hd2) (vx_c (va_Nw.use rfl hd3) vx_n))))) (by decide +kernel) hZU hZN hS (by rw [hml]; exact hl.1) dX8_printed_27 dX8_printed_30 dX8_printed_31 dX8_printed_34 (fun x h => (htab x h).elim) (Nat.le_of_ble_eq_true rfl) (Nat.le_of_ble_eq_true rfl) (Nat.le_of_ble_eq_true rfl) (Nat.le_of_ble_eq_true rfl) hlocks (fun t hal hz hk => ⟨(), trivial, hpx9, Nat.le_trans hS.1 hz, fun q h1 h2 => (hk q (Nat.lt_of_lt_of_le h1 hS.1)).trans (hS.2.1 q h1 h2)⟩) hS.2.2 (Nat.le_of_ble_eq_true rfl) (Nat.le_of_ble_eq_true rfl)
set_option maxHeartbeats 4000000 in
set_option maxRecDepth 100000 in
theorem c_load (l : Launch) (dC : Nat → ClassId) (dI : Nat → Nat → Nat) (h0 : Nat) (oB : Nat) (oP : Nat) (am : Nat) (oM : Nat) (oS : Nat) (oK : Nat) (oL : Nat) (oD : Nat) (aw : Nat) (tw : ClassId) (p0 : Int32) (p1 : Int32) (p2 : Int32) (sz : Nat) (hlt : l.stackTraces = false) : vx_Met l yX8_load wsX8_load ({ frames := 6, cells := 1, slots := 6, locals := 81 } : Room) (va_Pc [.ref h0, .int p0, .int p1, .int p2] (fun U => U.heap.size = sz ∧ va_P (dC, dI) vwCl [(h0, .inr (7, [.ref oB, .ref oP])), (oB, .inr (0, [.ref am, .ref oM, .ref oS, .ref oK, .ref oL, .ref oD])), (oD, .inr (1, [.int 128, .int 0, .ref aw, .int 0, .int 0, .int 0, .int 0, .int 0, .int 0, .int 0])), (aw, .inl (tw, 128, .inl (fun _ => 0)))] U.heap ∧ va_K (dC, dI) vwCl [(tw, .int)] U ∧ va_D (fun _ => True) [(h0, .inr (7, [.ref oB, .ref oP])), (oB, .inr (0, [.ref am, .ref oM, .ref oS, .ref oK, .ref oL, .ref oD])), (oD, .inr (1, [.int 128, .int 0, .ref aw, .int 0, .int 0, .int 0, .int 0, .int 0, .int 0, .int 0])), (aw, .inl (tw, 128, .inl (fun _ => 0)))] ∧ vx_Zq Bundle.tN "UNASSIGNED_STACK" Bundle.steD (va_A [(h0, .inr (7, [.ref oB, .ref oP])), (oB, .inr (0, [.ref am, .ref oM, .ref oS, .ref oK, .ref oL, .ref oD])), (oD, .inr (1, [.int 128, .int 0, .ref aw, .int 0, .int 0, .int 0, .int 0, .int 0, .int 0, .int 0])), (aw, .inl (tw, 128, .inl (fun _ => 0)))] sz) U U.heap ∧ vx_Zq Bundle.tN "SUPPRESSED_SENTINEL" Bundle.listD (va_A [(h0, .inr (7, [.ref oB, .ref oP])), (oB, .inr (0, [.ref am, .ref oM, .ref oS, .ref oK, .ref oL, .ref oD])), (oD, .inr (1, [.int 128, .int 0, .ref aw, .int 0, .int 0, .int 0, .int 0, .int 0, .int 0, .int 0])), (aw, .inl (tw, 128, .inl (fun _ => 0)))] sz) U U.heap ∧ va_Nw (.declares (Bundle.init0 "java/lang/RuntimeException")) U ∧ va_Nw (.declares (Bundle.init0 "java/lang/Exception")) U ∧ va_Nw (.declares (Bundle.init0 Bundle.tN)) U ∧ va_Nw (.castable "java/lang/IllegalArgumentException" "java/lang/IllegalArgumentException") U)) (va_Qv (fun (u : Unit) => (0 ≤ p0.toInt ∧ p0.toInt < 8 ∧ 0 ≤ p1.toInt ∧ p1.toInt < 16) ∧ (0 ≤ p2.toInt ∧ p2.toInt ≤ 65535)) (fun (u : Unit) (t : State) => va_P (dC, dI) vwCl [] t.heap ∧ va_K (dC, dI) vwCl [] t ∧ va_D (va_A [(h0, .inr (7, [.ref oB, .ref oP])), (oB, .inr (0, [.ref am, .ref oM, .ref oS, .ref oK, .ref oL, .ref oD])), (oD, .inr (1, [.int 128, .int 0, .ref aw, .int 0, .int 0, .int 0, .int 0, .int 0, .int 0, .int 0])), (aw, .inl (tw, 128, .inl (fun _ => 0)))] sz) []) (va_A [(h0, .inr (7, [.ref oB, .ref oP])), (oB, .inr (0, [.ref am, .ref oM, .ref oS, .ref oK, .ref oL, .ref oD])), (oD, .inr (1, [.int 128, .int 0, .ref aw, .int 0, .int 0, .int 0, .int 0, .int 0, .int 0, .int 0])), (aw, .inl (tw, 128, .inl (fun _ => 0)))] sz)) (vx_X (fun _ : Unit => True) (fun (E : String) (_ : Unit) (_ : State) => E = "java/lang/IllegalArgumentException" ∧ ¬ ((0 ≤ p0.toInt ∧ p0.toInt < 8 ∧ 0 ≤ p1.toInt ∧ p1.toInt < 16) ∧ (0 ≤ p2.toInt ∧ p2.toInt ≤ 65535))) (va_A [(h0, .inr (7, [.ref oB, .ref oP])), (oB, .inr (0, [.ref am, .ref oM, .ref oS, .ref oK, .ref oL, .ref oD])), (oD, .inr (1, [.int 128, .int 0, .ref aw, .int 0, .int 0, .int 0, .int 0, .int 0, .int 0, .int 0])), (aw, .inl (tw, 128, .inl (fun _ => 0)))] sz)) 1 6 (va_A [(h0, .inr (7, [.ref oB, .ref oP])), (oB, .inr (0, [.ref am, .ref oM, .ref oS, .ref oK, .ref oL, .ref oD])), (oD, .inr (1, [.int 128, .int 0, .ref aw, .int 0, .int 0, .int 0, .int 0, .int 0, .int 0, .int 0])), (aw, .inl (tw, 128, .inl (fun _ => 0)))] sz) := by
  refine vx_ofW (cc := cX8_load) (maxL := 4) (ret := none) (by decide) rfl ?_
  intro p e s m args below meth c s₁ B hml htab hv
  obtain ⟨rfl, hsz, hP, hK, hD0, hZU, hZN, hd1, hd2, hd3, hcI⟩ := hv
  have hx := B.exec
  have hb := B.bytes
  have hr := B.returns
  have hts := atoms_spec (ws := wsX8_load) B.pre
  have hown : s.vm.findClass RX8 = some m.cls := findClass_of_methodNamed B.named
  have hlocks := B.notSynchronized
  subst hsz
  have hD := hD0.self (sz := s.heap.size)
  generalize hAe : va_A [(h0, .inr (7, [.ref oB, .ref oP])), (oB, .inr (0, [.ref am, .ref oM, .ref oS, .ref oK, .ref oL, .ref oD])), (oD, .inr (1, [.int 128, .int 0, .ref aw, .int 0, .int 0, .int 0, .int 0, .int 0, .int 0, .int 0])), (aw, .inl (tw, 128, .inl (fun _ => 0)))] s.heap.size = A at hD hZU hZN ⊢
  have hA : ∀ q : Nat, s.heap.size ≤ q → A q := fun q h => by rw [← hAe]; exact Or.inr h
  have hS0 : ∀ G : Heap, s.heap = G → va_S A s.heap G [] := fun G h => by subst h; exact va_S.rf
  generalize hHe : s.heap = H at hP ⊢
  have hS := hS0 H hHe
  have hP : va_P (dC, dI) vwCl [(h0, .inr (7, [.ref oB, .ref oP])), (oB, .inr (0, [.ref am, .ref oM, .ref oS, .ref oK, .ref oL, .ref oD])), (oD, .inr (1, [.int 128, .int 0, .ref aw, .int 0, .int 0, .int 0, .int 0, .int 0, .int 0, .int 0])), (aw, .inl (tw, 128, .inl (fun _ => 0)))] H := hP
  have hD : va_D A [(h0, .inr (7, [.ref oB, .ref oP])), (oB, .inr (0, [.ref am, .ref oM, .ref oS, .ref oK, .ref oL, .ref oD])), (oD, .inr (1, [.int 128, .int 0, .ref aw, .int 0, .int 0, .int 0, .int 0, .int 0, .int 0, .int 0])), (aw, .inl (tw, 128, .inl (fun _ => 0)))] := hD
  have hK : va_K (dC, dI) vwCl [(tw, .int)] s := hK
  have hl := lv_entry ([.ref h0, .int p0, .int p1, .int p2]) (n := 4) (Nat.le_of_ble_eq_true rfl)
  rw [lg_entry_eq]
  generalize (lg_sl ([.ref h0, .int p0, .int p1, .int p2]) ++ List.replicate (4 - (lg_sl ([.ref h0, .int p0, .int p1, .int p2])).length) Slot.unset).toArray = ls at hl ⊢
  have hl : lv_has ls 4 [(0, .ref h0), (1, .int p0), (2, .int p1), (3, .int p2)] := hl
  refine lv_iload_n hx hb dX8_load_0 rfl (lv_at hl 1 rfl) ?_
  refine lv_iload_n hx hb dX8_load_1 rfl (lv_at hl 2 rfl) ?_
  have hPc := hP.sub (ws' := []) [] rfl
  have hDc := hD.sub (ws' := []) [] (by decide) rfl
  have hKc := hK.sub (tys' := []) [] rfl
  have hFc := va_free (wc := []) hD hS hA [] rfl
  refine va_calli (va_runS (As := [.int p0, .int p1]) (rest := []) ⟨hx, hb, hml, hown, hts⟩ (c_isDiskWord l dC dI p0 p1 H.size) (va_cwS 2 hts gX8_load_X8_isDiskWord rfl rfl rfl (by decide +kernel) ⟨Nat.le_of_ble_eq_true rfl, Nat.le_of_ble_eq_true rfl⟩) ⟨fun a U g mk q => by obtain ⟨q0, q1, qP, qK, qD⟩ := q; exact ⟨q0, q1, qP, va_K.moved (u := U) (U := U.calling g mk a) (Vm.Alike.refl U.vm) qK, qD⟩, fun U hU hW => ⟨rfl, by rw [hU], by rw [hU]; exact hPc, va_K.moved hW.alike hKc, hDc.weaken (fun _ _ _ _ => trivial)⟩⟩ rfl rfl hl.1 rfl (lv_room (Nat.le_of_ble_eq_true rfl)) dX8_load_2 ⟨Nat.le_of_ble_eq_true rfl, Nat.le_of_ble_eq_true rfl⟩) hS (fun q _ h => hFc q h) hFc (fun r1 u2 t H1 locs ht hvm hw hB hz1 hk1 hS => ?_)
  obtain ⟨hP1, hK1, hD1⟩ := hB
  rw [ht] at hP1
  have hK1 := va_K.moved hvm.symm hK1
  try dsimp only at hw
  obtain ⟨hP, hD⟩ := va_join (wr := [(h0, .inr (7, [.ref oB, .ref oP])), (oB, .inr (0, [.ref am, .ref oM, .ref oS, .ref oK, .ref oL, .ref oD])), (oD, .inr (1, [.int 128, .int 0, .ref aw, .int 0, .int 0, .int 0, .int 0, .int 0, .int 0, .int 0])), (aw, .inl (tw, 128, .inl (fun _ => 0)))]) (w1 := []) hP hD [] [0, 1, 2, 3] rfl rfl (by decide) (by decide) hk1 hFc hP1 hD1
  have hK := (hK.sub (tys' := [(tw, .int)]) [0] rfl).app hK1
  generalize H1 = H at hP hS ⊢
  have hP : va_P (dC, dI) vwCl [(h0, .inr (7, [.ref oB, .ref oP])), (oB, .inr (0, [.ref am, .ref oM, .ref oS, .ref oK, .ref oL, .ref oD])), (oD, .inr (1, [.int 128, .int 0, .ref aw, .int 0, .int 0, .int 0, .int 0, .int 0, .int 0, .int 0])), (aw, .inl (tw, 128, .inl (fun _ => 0)))] H := hP
  have hD : va_D A [(h0, .inr (7, [.ref oB, .ref oP])), (oB, .inr (0, [.ref am, .ref oM, .ref oS, .ref oK, .ref oL, .ref oD])), (oD, .inr (1, [.int 128, .int 0, .ref aw, .int 0, .int 0, .int 0, .int 0, .int 0, .int 0, .int 0])), (aw, .inl (tw, 128, .inl (fun _ => 0)))] := hD
  have hK : va_K (dC, dI) vwCl [(tw, .int)] s := hK
  rcases hw with ⟨rfl, _, _, _, _⟩ | ⟨rfl, _⟩
  · skip
    refine lv_if_eq (tgt := 15) hx hb dX8_load_5 (by decide) (fun c3 => ?_) (fun c3 => ?_)
    · exact absurd c3 (by decide)
    · skip
      refine lv_iload_n hx hb dX8_load_8 rfl (lv_at hl 3 rfl) ?_
      have hPc := hP.sub (ws' := []) [] rfl
      have hDc := hD.sub (ws' := []) [] (by decide) rfl
      have hKc := hK.sub (tys' := []) [] rfl
      have hFc := va_free (wc := []) hD hS hA [] rfl
      refine va_calli (va_runS (As := [.int p2]) (rest := []) ⟨hx, hb, hml, hown, hts⟩ (c_isWord l dC dI p2 H.size) (va_cwS 1 hts gX8_load_X8_isWord rfl rfl rfl (by decide +kernel) ⟨Nat.le_of_ble_eq_true rfl, Nat.le_of_ble_eq_true rfl⟩) ⟨fun a U g mk q => by obtain ⟨q0, q1, qP, qK, qD⟩ := q; exact ⟨q0, q1, qP, va_K.moved (u := U) (U := U.calling g mk a) (Vm.Alike.refl U.vm) qK, qD⟩, fun U hU hW => ⟨rfl, by rw [hU], by rw [hU]; exact hPc, va_K.moved hW.alike hKc, hDc.weaken (fun _ _ _ _ => trivial)⟩⟩ rfl rfl hl.1 rfl (lv_room (Nat.le_of_ble_eq_true rfl)) dX8_load_9 ⟨Nat.le_of_ble_eq_true rfl, Nat.le_of_ble_eq_true rfl⟩) hS (fun q _ h => hFc q h) hFc (fun r4 u5 t H1 locs ht hvm hw hB hz1 hk1 hS => ?_)
      obtain ⟨hP1, hK1, hD1⟩ := hB
      rw [ht] at hP1
      have hK1 := va_K.moved hvm.symm hK1
      try dsimp only at hw
      obtain ⟨hP, hD⟩ := va_join (wr := [(h0, .inr (7, [.ref oB, .ref oP])), (oB, .inr (0, [.ref am, .ref oM, .ref oS, .ref oK, .ref oL, .ref oD])), (oD, .inr (1, [.int 128, .int 0, .ref aw, .int 0, .int 0, .int 0, .int 0, .int 0, .int 0, .int 0])), (aw, .inl (tw, 128, .inl (fun _ => 0)))]) (w1 := []) hP hD [] [0, 1, 2, 3] rfl rfl (by decide) (by decide) hk1 hFc hP1 hD1
      have hK := (hK.sub (tys' := [(tw, .int)]) [0] rfl).app hK1
      generalize H1 = H at hP hS ⊢
      have hP : va_P (dC, dI) vwCl [(h0, .inr (7, [.ref oB, .ref oP])), (oB, .inr (0, [.ref am, .ref oM, .ref oS, .ref oK, .ref oL, .ref oD])), (oD, .inr (1, [.int 128, .int 0, .ref aw, .int 0, .int 0, .int 0, .int 0, .int 0, .int 0, .int 0])), (aw, .inl (tw, 128, .inl (fun _ => 0)))] H := hP
      have hD : va_D A [(h0, .inr (7, [.ref oB, .ref oP])), (oB, .inr (0, [.ref am, .ref oM, .ref oS, .ref oK, .ref oL, .ref oD])), (oD, .inr (1, [.int 128, .int 0, .ref aw, .int 0, .int 0, .int 0, .int 0, .int 0, .int 0, .int 0])), (aw, .inl (tw, 128, .inl (fun _ => 0)))] := hD
      have hK : va_K (dC, dI) vwCl [(tw, .int)] s := hK
      rcases hw with ⟨rfl, _, _⟩ | ⟨rfl, _⟩
      · skip
        refine lv_if_ne (tgt := 23) hx hb dX8_load_12 (by decide) (fun c6 => ?_) (fun c6 => ?_)
        · skip
          refine lv_aload_n hx hb dX8_load_23 rfl (lv_at hl 0 rfl) ?_
          refine va_get (D := (dC, dI)) (ci := 7) (v := .ref oB) (C := RX8) (T := TX8) (N := 2) hx hb hts (by decide +kernel) hown hK hP 0 rfl rfl 0 (by decide) (hts (.fieldLink RX8 10 "UnibusMachine" "bus" "LUnibusMachine$Bus;") (by decide +kernel)) (fun _ h9 => h9) rfl dX8_load_24 ?_
          refine va_get (D := (dC, dI)) (ci := 0) (v := .ref oD) (C := RX0) (T := TX0) (N := 6) hx hb hts (by decide +kernel) hown hK hP 1 rfl rfl 5 (by decide) (hts (.fieldLink RX8 110 "UnibusMachine$Bus" "drive" "LUnibusMachine$Drive;") (by decide +kernel)) (fun _ h9 => h9) rfl dX8_load_27 ?_
          refine va_get (D := (dC, dI)) (ci := 1) (v := .ref aw) (C := RX1) (T := TX1) (N := 10) hx hb hts (by decide +kernel) hown hK hP 2 rfl rfl 2 (by decide) (hts (.fieldLink RX8 114 "UnibusMachine$Drive" "words" "[I") (by decide +kernel)) (fun _ h9 => h9) rfl dX8_load_30 ?_
          refine lv_bipush (v := 16) hx hb dX8_load_33 (by decide) ?_
          refine lv_iload_n hx hb dX8_load_35 rfl (lv_at hl 1 rfl) ?_
          refine lv_imul hx hb dX8_load_36 ?_
          refine lv_iload_n hx hb dX8_load_37 rfl (lv_at hl 2 rfl) ?_
          refine lv_iadd hx hb dX8_load_38 ?_
          have f1 := fz_16 p0 p1 (by omega) (by omega) (by omega) (by omega)
          refine lv_iload_n hx hb dX8_load_39 rfl (lv_at hl 3 rfl) ?_
          refine va_iast (D := (dC, dI)) hx hb hK hP hD hS 3 0 rfl rfl (vp_in_iff.mpr (by constructor <;> omega)) dX8_load_40 (fun H locs hP hD hS => ?_)
          have hP : va_P (dC, dI) vwCl [(h0, .inr (7, [.ref oB, .ref oP])), (oB, .inr (0, [.ref am, .ref oM, .ref oS, .ref oK, .ref oL, .ref oD])), (oD, .inr (1, [.int 128, .int 0, .ref aw, .int 0, .int 0, .int 0, .int 0, .int 0, .int 0, .int 0])), (aw, .inl (tw, 128, .inl (upd (fun _ => 0) ((16 * p0) + p1 : Int32).toNatClampNeg p2)))] H := hP
          have hD : va_D A [(h0, .inr (7, [.ref oB, .ref oP])), (oB, .inr (0, [.ref am, .ref oM, .ref oS, .ref oK, .ref oL, .ref oD])), (oD, .inr (1, [.int 128, .int 0, .ref aw, .int 0, .int 0, .int 0, .int 0, .int 0, .int 0, .int 0])), (aw, .inl (tw, 128, .inl (upd (fun _ => 0) ((16 * p0) + p1 : Int32).toNatClampNeg p2)))] := hD
          have hP9 := hP.sub (ws' := []) [] rfl
          have hD9 := hD.sub (ws' := []) [] (by decide) rfl
          have hK9 := hK.sub (tys' := []) [] rfl
          refine vx_ret ?_
          refine W.widen (k := 1) (n := 6) (Nat.le_of_ble_eq_true rfl) (Nat.le_of_ble_eq_true rfl) ?_
          exact W.vret hx hb hr (fun t ht hW => ⟨⟨(), rfl, (by omega), by rw [ht]; exact hP9, va_K.moved hW.alike hK9, hD9⟩, hS.F ht⟩) hS.2.2 dX8_load_41
        · exact absurd c6 (by decide)
      · skip
        refine lv_if_ne (tgt := 23) hx hb dX8_load_12 (by decide) (fun c7 => ?_) (fun c7 => ?_)
        · exact absurd c7 (by decide)
        · skip
          have hpx9 : "java/lang/IllegalArgumentException" = "java/lang/IllegalArgumentException" ∧ ¬ ((0 ≤ p0.toInt ∧ p0.toInt < 8 ∧ 0 ≤ p1.toInt ∧ p1.toInt < 16) ∧ (0 ≤ p2.toInt ∧ p2.toInt ≤ 65535)) := by exact ⟨rfl, by omega⟩
          exact vx_throw0 (names := ["java/lang/RuntimeException", "java/lang/Exception"]) (cls := "java/lang/IllegalArgumentException") (ik := 32) (ic := 34) (A := A) hx hb hlt hown (by decide) (by decide) (hts (.classLink RX8 32 "java/lang/IllegalArgumentException") (by decide +kernel)) (hts (.initialized "java/lang/IllegalArgumentException") (by decide +kernel)) (vx_hat (fun w h => hts w (List.mem_cons_of_mem _ (List.mem_append_right _ h))) (by decide +kernel) (vx_c (va_Nw.use rfl hcI) (vx_c (va_Nw.use rfl hd1) (vx_c (va_Nw.use rfl hd2) (vx_c (va_Nw.use rfl hd3) vx_n))))) (by decide +kernel) hZU hZN hS (by rw [hml]; exact hl.1) dX8_load_15 dX8_load_18 dX8_load_19 dX8_load_22 (fun x h => (htab x h).elim) (Nat.le_of_ble_eq_true rfl) (Nat.le_of_ble_eq_true rfl) (Nat.le_of_ble_eq_true rfl) (Nat.le_of_ble_eq_true rfl) hlocks (fun t hal hz hk => ⟨(), trivial, hpx9, Nat.le_trans hS.1 hz, fun q h1 h2 => (hk q (Nat.lt_of_lt_of_le h1 hS.1)).trans (hS.2.1 q h1 h2)⟩) hS.2.2 (Nat.le_of_ble_eq_true rfl) (Nat.le_of_ble_eq_true rfl)
  · skip
    refine lv_if_eq (tgt := 15) hx hb dX8_load_5 (by decide) (fun c8 => ?_) (fun c8 => ?_)
    · skip
      have hpx9 : "java/lang/IllegalArgumentException" = "java/lang/IllegalArgumentException" ∧ ¬ ((0 ≤ p0.toInt ∧ p0.toInt < 8 ∧ 0 ≤ p1.toInt ∧ p1.toInt < 16) ∧ (0 ≤ p2.toInt ∧ p2.toInt ≤ 65535)) := by exact ⟨rfl, by omega⟩
      exact vx_throw0 (names := ["java/lang/RuntimeException", "java/lang/Exception"]) (cls := "java/lang/IllegalArgumentException") (ik := 32) (ic := 34) (A := A) hx hb hlt hown (by decide) (by decide) (hts (.classLink RX8 32 "java/lang/IllegalArgumentException") (by decide +kernel)) (hts (.initialized "java/lang/IllegalArgumentException") (by decide +kernel)) (vx_hat (fun w h => hts w (List.mem_cons_of_mem _ (List.mem_append_right _ h))) (by decide +kernel) (vx_c (va_Nw.use rfl hcI) (vx_c (va_Nw.use rfl hd1) (vx_c (va_Nw.use rfl hd2) (vx_c (va_Nw.use rfl hd3) vx_n))))) (by decide +kernel) hZU hZN hS (by rw [hml]; exact hl.1) dX8_load_15 dX8_load_18 dX8_load_19 dX8_load_22 (fun x h => (htab x h).elim) (Nat.le_of_ble_eq_true rfl) (Nat.le_of_ble_eq_true rfl) (Nat.le_of_ble_eq_true rfl) (Nat.le_of_ble_eq_true rfl) hlocks (fun t hal hz hk => ⟨(), trivial, hpx9, Nat.le_trans hS.1 hz, fun q h1 h2 => (hk q (Nat.lt_of_lt_of_le h1 hS.1)).trans (hS.2.1 q h1 h2)⟩) hS.2.2 (Nat.le_of_ble_eq_true rfl) (Nat.le_of_ble_eq_true rfl)
    · exact absurd c8 (by decide)
set_option maxHeartbeats 4000000 in
set_option maxRecDepth 100000 in
theorem c_disk (l : Launch) (dC : Nat → ClassId) (dI : Nat → Nat → Nat) (h0 : Nat) (oB : Nat) (oP : Nat) (am : Nat) (oM : Nat) (oS : Nat) (oK : Nat) (oL : Nat) (oD : Nat) (aw : Nat) (tw : ClassId) (p0 : Int32) (p1 : Int32) (sz : Nat) (hlt : l.stackTraces = false) : vx_Met l yX8_disk wsX8_disk ({ frames := 6, cells := 1, slots := 6, locals := 81 } : Room) (va_Pc [.ref h0, .int p0, .int p1] (fun U => U.heap.size = sz ∧ va_P (dC, dI) vwCl [(h0, .inr (7, [.ref oB, .ref oP])), (oB, .inr (0, [.ref am, .ref oM, .ref oS, .ref oK, .ref oL, .ref oD])), (oD, .inr (1, [.int 128, .int 0, .ref aw, .int 0, .int 0, .int 0, .int 0, .int 0, .int 0, .int 0])), (aw, .inl (tw, 128, .inl (fun _ => 0)))] U.heap ∧ va_K (dC, dI) vwCl [(tw, .int)] U ∧ va_D (fun _ => True) [(h0, .inr (7, [.ref oB, .ref oP])), (oB, .inr (0, [.ref am, .ref oM, .ref oS, .ref oK, .ref oL, .ref oD])), (oD, .inr (1, [.int 128, .int 0, .ref aw, .int 0, .int 0, .int 0, .int 0, .int 0, .int 0, .int 0])), (aw, .inl (tw, 128, .inl (fun _ => 0)))] ∧ vx_Zq Bundle.tN "UNASSIGNED_STACK" Bundle.steD (va_A [(h0, .inr (7, [.ref oB, .ref oP])), (oB, .inr (0, [.ref am, .ref oM, .ref oS, .ref oK, .ref oL, .ref oD])), (oD, .inr (1, [.int 128, .int 0, .ref aw, .int 0, .int 0, .int 0, .int 0, .int 0, .int 0, .int 0])), (aw, .inl (tw, 128, .inl (fun _ => 0)))] sz) U U.heap ∧ vx_Zq Bundle.tN "SUPPRESSED_SENTINEL" Bundle.listD (va_A [(h0, .inr (7, [.ref oB, .ref oP])), (oB, .inr (0, [.ref am, .ref oM, .ref oS, .ref oK, .ref oL, .ref oD])), (oD, .inr (1, [.int 128, .int 0, .ref aw, .int 0, .int 0, .int 0, .int 0, .int 0, .int 0, .int 0])), (aw, .inl (tw, 128, .inl (fun _ => 0)))] sz) U U.heap ∧ va_Nw (.declares (Bundle.init0 "java/lang/RuntimeException")) U ∧ va_Nw (.declares (Bundle.init0 "java/lang/Exception")) U ∧ va_Nw (.declares (Bundle.init0 Bundle.tN)) U ∧ va_Nw (.castable "java/lang/IllegalArgumentException" "java/lang/IllegalArgumentException") U)) (va_Qi (fun (r : Int32) (u : Unit) => r = 0 ∧ (0 ≤ p0.toInt ∧ p0.toInt < 8 ∧ 0 ≤ p1.toInt ∧ p1.toInt < 16)) (fun (u : Unit) (t : State) => va_P (dC, dI) vwCl [] t.heap ∧ va_K (dC, dI) vwCl [] t ∧ va_D (va_A [(h0, .inr (7, [.ref oB, .ref oP])), (oB, .inr (0, [.ref am, .ref oM, .ref oS, .ref oK, .ref oL, .ref oD])), (oD, .inr (1, [.int 128, .int 0, .ref aw, .int 0, .int 0, .int 0, .int 0, .int 0, .int 0, .int 0])), (aw, .inl (tw, 128, .inl (fun _ => 0)))] sz) []) (va_A [(h0, .inr (7, [.ref oB, .ref oP])), (oB, .inr (0, [.ref am, .ref oM, .ref oS, .ref oK, .ref oL, .ref oD])), (oD, .inr (1, [.int 128, .int 0, .ref aw, .int 0, .int 0, .int 0, .int 0, .int 0, .int 0, .int 0])), (aw, .inl (tw, 128, .inl (fun _ => 0)))] sz)) (vx_X (fun _ : Unit => True) (fun (E : String) (_ : Unit) (_ : State) => E = "java/lang/IllegalArgumentException" ∧ ¬ ((0 ≤ p0.toInt ∧ p0.toInt < 8 ∧ 0 ≤ p1.toInt ∧ p1.toInt < 16))) (va_A [(h0, .inr (7, [.ref oB, .ref oP])), (oB, .inr (0, [.ref am, .ref oM, .ref oS, .ref oK, .ref oL, .ref oD])), (oD, .inr (1, [.int 128, .int 0, .ref aw, .int 0, .int 0, .int 0, .int 0, .int 0, .int 0, .int 0])), (aw, .inl (tw, 128, .inl (fun _ => 0)))] sz)) 1 6 (va_A [(h0, .inr (7, [.ref oB, .ref oP])), (oB, .inr (0, [.ref am, .ref oM, .ref oS, .ref oK, .ref oL, .ref oD])), (oD, .inr (1, [.int 128, .int 0, .ref aw, .int 0, .int 0, .int 0, .int 0, .int 0, .int 0, .int 0])), (aw, .inl (tw, 128, .inl (fun _ => 0)))] sz) := by
  refine vx_ofW (cc := cX8_disk) (maxL := 3) (ret := (some .int)) (by decide) rfl ?_
  intro p e s m args below meth c s₁ B hml htab hv
  obtain ⟨rfl, hsz, hP, hK, hD0, hZU, hZN, hd1, hd2, hd3, hcI⟩ := hv
  have hx := B.exec
  have hb := B.bytes
  have hr := B.returns
  have hts := atoms_spec (ws := wsX8_disk) B.pre
  have hown : s.vm.findClass RX8 = some m.cls := findClass_of_methodNamed B.named
  have hlocks := B.notSynchronized
  subst hsz
  have hD := hD0.self (sz := s.heap.size)
  generalize hAe : va_A [(h0, .inr (7, [.ref oB, .ref oP])), (oB, .inr (0, [.ref am, .ref oM, .ref oS, .ref oK, .ref oL, .ref oD])), (oD, .inr (1, [.int 128, .int 0, .ref aw, .int 0, .int 0, .int 0, .int 0, .int 0, .int 0, .int 0])), (aw, .inl (tw, 128, .inl (fun _ => 0)))] s.heap.size = A at hD hZU hZN ⊢
  have hA : ∀ q : Nat, s.heap.size ≤ q → A q := fun q h => by rw [← hAe]; exact Or.inr h
  have hS0 : ∀ G : Heap, s.heap = G → va_S A s.heap G [] := fun G h => by subst h; exact va_S.rf
  generalize hHe : s.heap = H at hP ⊢
  have hS := hS0 H hHe
  have hP : va_P (dC, dI) vwCl [(h0, .inr (7, [.ref oB, .ref oP])), (oB, .inr (0, [.ref am, .ref oM, .ref oS, .ref oK, .ref oL, .ref oD])), (oD, .inr (1, [.int 128, .int 0, .ref aw, .int 0, .int 0, .int 0, .int 0, .int 0, .int 0, .int 0])), (aw, .inl (tw, 128, .inl (fun _ => 0)))] H := hP
  have hD : va_D A [(h0, .inr (7, [.ref oB, .ref oP])), (oB, .inr (0, [.ref am, .ref oM, .ref oS, .ref oK, .ref oL, .ref oD])), (oD, .inr (1, [.int 128, .int 0, .ref aw, .int 0, .int 0, .int 0, .int 0, .int 0, .int 0, .int 0])), (aw, .inl (tw, 128, .inl (fun _ => 0)))] := hD
  have hK : va_K (dC, dI) vwCl [(tw, .int)] s := hK
  have hl := lv_entry ([.ref h0, .int p0, .int p1]) (n := 3) (Nat.le_of_ble_eq_true rfl)
  rw [lg_entry_eq]
  generalize (lg_sl ([.ref h0, .int p0, .int p1]) ++ List.replicate (3 - (lg_sl ([.ref h0, .int p0, .int p1])).length) Slot.unset).toArray = ls at hl ⊢
  have hl : lv_has ls 3 [(0, .ref h0), (1, .int p0), (2, .int p1)] := hl
  refine lv_iload_n hx hb dX8_disk_0 rfl (lv_at hl 1 rfl) ?_
  refine lv_iload_n hx hb dX8_disk_1 rfl (lv_at hl 2 rfl) ?_
  have hPc := hP.sub (ws' := []) [] rfl
  have hDc := hD.sub (ws' := []) [] (by decide) rfl
  have hKc := hK.sub (tys' := []) [] rfl
  have hFc := va_free (wc := []) hD hS hA [] rfl
  refine va_calli (va_runS (As := [.int p0, .int p1]) (rest := []) ⟨hx, hb, hml, hown, hts⟩ (c_isDiskWord l dC dI p0 p1 H.size) (va_cwS 2 hts gX8_disk_X8_isDiskWord rfl rfl rfl (by decide +kernel) ⟨Nat.le_of_ble_eq_true rfl, Nat.le_of_ble_eq_true rfl⟩) ⟨fun a U g mk q => by obtain ⟨q0, q1, qP, qK, qD⟩ := q; exact ⟨q0, q1, qP, va_K.moved (u := U) (U := U.calling g mk a) (Vm.Alike.refl U.vm) qK, qD⟩, fun U hU hW => ⟨rfl, by rw [hU], by rw [hU]; exact hPc, va_K.moved hW.alike hKc, hDc.weaken (fun _ _ _ _ => trivial)⟩⟩ rfl rfl hl.1 rfl (lv_room (Nat.le_of_ble_eq_true rfl)) dX8_disk_2 ⟨Nat.le_of_ble_eq_true rfl, Nat.le_of_ble_eq_true rfl⟩) hS (fun q _ h => hFc q h) hFc (fun r1 u2 t H1 locs ht hvm hw hB hz1 hk1 hS => ?_)
  obtain ⟨hP1, hK1, hD1⟩ := hB
  rw [ht] at hP1
  have hK1 := va_K.moved hvm.symm hK1
  try dsimp only at hw
  obtain ⟨hP, hD⟩ := va_join (wr := [(h0, .inr (7, [.ref oB, .ref oP])), (oB, .inr (0, [.ref am, .ref oM, .ref oS, .ref oK, .ref oL, .ref oD])), (oD, .inr (1, [.int 128, .int 0, .ref aw, .int 0, .int 0, .int 0, .int 0, .int 0, .int 0, .int 0])), (aw, .inl (tw, 128, .inl (fun _ => 0)))]) (w1 := []) hP hD [] [0, 1, 2, 3] rfl rfl (by decide) (by decide) hk1 hFc hP1 hD1
  have hK := (hK.sub (tys' := [(tw, .int)]) [0] rfl).app hK1
  generalize H1 = H at hP hS ⊢
  have hP : va_P (dC, dI) vwCl [(h0, .inr (7, [.ref oB, .ref oP])), (oB, .inr (0, [.ref am, .ref oM, .ref oS, .ref oK, .ref oL, .ref oD])), (oD, .inr (1, [.int 128, .int 0, .ref aw, .int 0, .int 0, .int 0, .int 0, .int 0, .int 0, .int 0])), (aw, .inl (tw, 128, .inl (fun _ => 0)))] H := hP
  have hD : va_D A [(h0, .inr (7, [.ref oB, .ref oP])), (oB, .inr (0, [.ref am, .ref oM, .ref oS, .ref oK, .ref oL, .ref oD])), (oD, .inr (1, [.int 128, .int 0, .ref aw, .int 0, .int 0, .int 0, .int 0, .int 0, .int 0, .int 0])), (aw, .inl (tw, 128, .inl (fun _ => 0)))] := hD
  have hK : va_K (dC, dI) vwCl [(tw, .int)] s := hK
  rcases hw with ⟨rfl, _, _, _, _⟩ | ⟨rfl, _⟩
  · skip
    refine lv_if_ne (tgt := 16) hx hb dX8_disk_5 (by decide) (fun c3 => ?_) (fun c3 => ?_)
    · skip
      refine lv_aload_n hx hb dX8_disk_16 rfl (lv_at hl 0 rfl) ?_
      refine va_get (D := (dC, dI)) (ci := 7) (v := .ref oB) (C := RX8) (T := TX8) (N := 2) hx hb hts (by decide +kernel) hown hK hP 0 rfl rfl 0 (by decide) (hts (.fieldLink RX8 10 "UnibusMachine" "bus" "LUnibusMachine$Bus;") (by decide +kernel)) (fun _ h9 => h9) rfl dX8_disk_17 ?_
      refine va_get (D := (dC, dI)) (ci := 0) (v := .ref oD) (C := RX0) (T := TX0) (N := 6) hx hb hts (by decide +kernel) hown hK hP 1 rfl rfl 5 (by decide) (hts (.fieldLink RX8 110 "UnibusMachine$Bus" "drive" "LUnibusMachine$Drive;") (by decide +kernel)) (fun _ h9 => h9) rfl dX8_disk_20 ?_
      refine va_get (D := (dC, dI)) (ci := 1) (v := .ref aw) (C := RX1) (T := TX1) (N := 10) hx hb hts (by decide +kernel) hown hK hP 2 rfl rfl 2 (by decide) (hts (.fieldLink RX8 114 "UnibusMachine$Drive" "words" "[I") (by decide +kernel)) (fun _ h9 => h9) rfl dX8_disk_23 ?_
      refine lv_bipush (v := 16) hx hb dX8_disk_26 (by decide) ?_
      refine lv_iload_n hx hb dX8_disk_28 rfl (lv_at hl 1 rfl) ?_
      refine lv_imul hx hb dX8_disk_29 ?_
      refine lv_iload_n hx hb dX8_disk_30 rfl (lv_at hl 2 rfl) ?_
      refine lv_iadd hx hb dX8_disk_31 ?_
      have f1 := fz_16 p0 p1 (by omega) (by omega) (by omega) (by omega)
      refine va_iald (D := (dC, dI)) hx hb hK hP 3 0 rfl rfl (vp_in_iff.mpr (by constructor <;> omega)) dX8_disk_32 ?_
      have hP9 := hP.sub (ws' := []) [] rfl
      have hD9 := hD.sub (ws' := []) [] (by decide) rfl
      have hK9 := hK.sub (tys' := []) [] rfl
      refine vx_ret ?_
      refine W.widen (k := 1) (n := 6) (Nat.le_of_ble_eq_true rfl) (Nat.le_of_ble_eq_true rfl) ?_
      exact W.iret (v := 0) hx hb hr (fun t ht hW => ⟨⟨0, (), rfl, ⟨rfl, by omega⟩, by rw [ht]; exact hP9, va_K.moved hW.alike hK9, hD9⟩, hS.F ht⟩) hS.2.2 dX8_disk_33
    · exact absurd c3 (by decide)
  · skip
    refine lv_if_ne (tgt := 16) hx hb dX8_disk_5 (by decide) (fun c4 => ?_) (fun c4 => ?_)
    · exact absurd c4 (by decide)
    · skip
      have hpx9 : "java/lang/IllegalArgumentException" = "java/lang/IllegalArgumentException" ∧ ¬ ((0 ≤ p0.toInt ∧ p0.toInt < 8 ∧ 0 ≤ p1.toInt ∧ p1.toInt < 16)) := by exact ⟨rfl, by omega⟩
      exact vx_throw0 (names := ["java/lang/RuntimeException", "java/lang/Exception"]) (cls := "java/lang/IllegalArgumentException") (ik := 32) (ic := 34) (A := A) hx hb hlt hown (by decide) (by decide) (hts (.classLink RX8 32 "java/lang/IllegalArgumentException") (by decide +kernel)) (hts (.initialized "java/lang/IllegalArgumentException") (by decide +kernel)) (vx_hat (fun w h => hts w (List.mem_cons_of_mem _ (List.mem_append_right _ h))) (by decide +kernel) (vx_c (va_Nw.use rfl hcI) (vx_c (va_Nw.use rfl hd1) (vx_c (va_Nw.use rfl hd2) (vx_c (va_Nw.use rfl hd3) vx_n))))) (by decide +kernel) hZU hZN hS (by rw [hml]; exact hl.1) dX8_disk_8 dX8_disk_11 dX8_disk_12 dX8_disk_15 (fun x h => (htab x h).elim) (Nat.le_of_ble_eq_true rfl) (Nat.le_of_ble_eq_true rfl) (Nat.le_of_ble_eq_true rfl) (Nat.le_of_ble_eq_true rfl) hlocks (fun t hal hz hk => ⟨(), trivial, hpx9, Nat.le_trans hS.1 hz, fun q h1 h2 => (hk q (Nat.lt_of_lt_of_le h1 hS.1)).trans (hS.2.1 q h1 h2)⟩) hS.2.2 (Nat.le_of_ble_eq_true rfl) (Nat.le_of_ble_eq_true rfl)
set_option maxHeartbeats 4000000 in
set_option maxRecDepth 100000 in
theorem c_peek (l : Launch) (dC : Nat → ClassId) (dI : Nat → Nat → Nat) (h0 : Nat) (am : Nat) (oM : Nat) (oS : Nat) (oK : Nat) (oL : Nat) (oD : Nat) (ad : Nat) (ab : Nat) (td : ClassId) (tb : ClassId) (ap : Nat) (aw : Nat) (p0 : Int32) (sz : Nat) (h9 : 57344 ≤ p0.toInt) : Met l yX0_peek wsX0_peek ({ frames := 0, cells := 0, slots := 0, locals := 0 } : Room) (va_Pc [.ref h0, .int p0] (fun U => U.heap.size = sz ∧ va_P (dC, dI) vwCl [(h0, .inr (0, [.ref am, .ref oM, .ref oS, .ref oK, .ref oL, .ref oD])), (oM, .inr (3, [.ref ad, .ref ab, .int 0])), (ad, .inl (td, 16, .inl (fun _ => 0))), (ab, .inl (tb, 16, .inl (fun _ => 0))), (oS, .inr (6, [.int 0, .int (-1)])), (oK, .inr (2, [.int 0, .int 0, .int 0])), (oL, .inr (4, [.int 128, .int 0, .ref ap, .int 0, .int 0, .int 0, .int 0])), (oD, .inr (1, [.int 128, .int 0, .ref aw, .int 0, .int 0, .int 0, .int 0, .int 0, .int 0, .int 0]))] U.heap ∧ va_K (dC, dI) vwCl [(td, .int), (tb, .int)] U ∧ va_D (fun _ => True) [(h0, .inr (0, [.ref am, .ref oM, .ref oS, .ref oK, .ref oL, .ref oD])), (oM, .inr (3, [.ref ad, .ref ab, .int 0])), (ad, .inl (td, 16, .inl (fun _ => 0))), (ab, .inl (tb, 16, .inl (fun _ => 0))), (oS, .inr (6, [.int 0, .int (-1)])), (oK, .inr (2, [.int 0, .int 0, .int 0])), (oL, .inr (4, [.int 128, .int 0, .ref ap, .int 0, .int 0, .int 0, .int 0])), (oD, .inr (1, [.int 128, .int 0, .ref aw, .int 0, .int 0, .int 0, .int 0, .int 0, .int 0, .int 0]))])) (va_Qi (fun (r : Int32) (u : Unit) => r = dv p0.toInt) (fun (u : Unit) (t : State) => va_P (dC, dI) vwCl [] t.heap ∧ va_K (dC, dI) vwCl [] t ∧ va_D (va_A [(h0, .inr (0, [.ref am, .ref oM, .ref oS, .ref oK, .ref oL, .ref oD])), (oM, .inr (3, [.ref ad, .ref ab, .int 0])), (ad, .inl (td, 16, .inl (fun _ => 0))), (ab, .inl (tb, 16, .inl (fun _ => 0))), (oS, .inr (6, [.int 0, .int (-1)])), (oK, .inr (2, [.int 0, .int 0, .int 0])), (oL, .inr (4, [.int 128, .int 0, .ref ap, .int 0, .int 0, .int 0, .int 0])), (oD, .inr (1, [.int 128, .int 0, .ref aw, .int 0, .int 0, .int 0, .int 0, .int 0, .int 0, .int 0]))] sz) []) (va_A [(h0, .inr (0, [.ref am, .ref oM, .ref oS, .ref oK, .ref oL, .ref oD])), (oM, .inr (3, [.ref ad, .ref ab, .int 0])), (ad, .inl (td, 16, .inl (fun _ => 0))), (ab, .inl (tb, 16, .inl (fun _ => 0))), (oS, .inr (6, [.int 0, .int (-1)])), (oK, .inr (2, [.int 0, .int 0, .int 0])), (oL, .inr (4, [.int 128, .int 0, .ref ap, .int 0, .int 0, .int 0, .int 0])), (oD, .inr (1, [.int 128, .int 0, .ref aw, .int 0, .int 0, .int 0, .int 0, .int 0, .int 0, .int 0]))] sz)) 0 0 (va_A [(h0, .inr (0, [.ref am, .ref oM, .ref oS, .ref oK, .ref oL, .ref oD])), (oM, .inr (3, [.ref ad, .ref ab, .int 0])), (ad, .inl (td, 16, .inl (fun _ => 0))), (ab, .inl (tb, 16, .inl (fun _ => 0))), (oS, .inr (6, [.int 0, .int (-1)])), (oK, .inr (2, [.int 0, .int 0, .int 0])), (oL, .inr (4, [.int 128, .int 0, .ref ap, .int 0, .int 0, .int 0, .int 0])), (oD, .inr (1, [.int 128, .int 0, .ref aw, .int 0, .int 0, .int 0, .int 0, .int 0, .int 0, .int 0]))] sz) := by
  refine Met.ofW (cc := cX0_peek) (maxL := 2) (ret := (some .int)) (by decide) rfl ?_
  intro p e s m args below meth c s₁ B hml hv
  obtain ⟨rfl, hsz, hP, hK, hD0⟩ := hv
  have hx := B.exec
  have hb := B.bytes
  have hr := B.returns
  have hts := atoms_spec (ws := wsX0_peek) B.pre
  have hown : s.vm.findClass RX0 = some m.cls := findClass_of_methodNamed B.named
  have hlocks := B.notSynchronized
  subst hsz
  have hD := hD0.self (sz := s.heap.size)
  generalize hAe : va_A [(h0, .inr (0, [.ref am, .ref oM, .ref oS, .ref oK, .ref oL, .ref oD])), (oM, .inr (3, [.ref ad, .ref ab, .int 0])), (ad, .inl (td, 16, .inl (fun _ => 0))), (ab, .inl (tb, 16, .inl (fun _ => 0))), (oS, .inr (6, [.int 0, .int (-1)])), (oK, .inr (2, [.int 0, .int 0, .int 0])), (oL, .inr (4, [.int 128, .int 0, .ref ap, .int 0, .int 0, .int 0, .int 0])), (oD, .inr (1, [.int 128, .int 0, .ref aw, .int 0, .int 0, .int 0, .int 0, .int 0, .int 0, .int 0]))] s.heap.size = A at hD ⊢
  have hA : ∀ q : Nat, s.heap.size ≤ q → A q := fun q h => by rw [← hAe]; exact Or.inr h
  have hS0 : ∀ G : Heap, s.heap = G → va_S A s.heap G [] := fun G h => by subst h; exact va_S.rf
  generalize hHe : s.heap = H at hP ⊢
  have hS := hS0 H hHe
  have hP : va_P (dC, dI) vwCl [(h0, .inr (0, [.ref am, .ref oM, .ref oS, .ref oK, .ref oL, .ref oD])), (oM, .inr (3, [.ref ad, .ref ab, .int 0])), (ad, .inl (td, 16, .inl (fun _ => 0))), (ab, .inl (tb, 16, .inl (fun _ => 0))), (oS, .inr (6, [.int 0, .int (-1)])), (oK, .inr (2, [.int 0, .int 0, .int 0])), (oL, .inr (4, [.int 128, .int 0, .ref ap, .int 0, .int 0, .int 0, .int 0])), (oD, .inr (1, [.int 128, .int 0, .ref aw, .int 0, .int 0, .int 0, .int 0, .int 0, .int 0, .int 0]))] H := hP
  have hD : va_D A [(h0, .inr (0, [.ref am, .ref oM, .ref oS, .ref oK, .ref oL, .ref oD])), (oM, .inr (3, [.ref ad, .ref ab, .int 0])), (ad, .inl (td, 16, .inl (fun _ => 0))), (ab, .inl (tb, 16, .inl (fun _ => 0))), (oS, .inr (6, [.int 0, .int (-1)])), (oK, .inr (2, [.int 0, .int 0, .int 0])), (oL, .inr (4, [.int 128, .int 0, .ref ap, .int 0, .int 0, .int 0, .int 0])), (oD, .inr (1, [.int 128, .int 0, .ref aw, .int 0, .int 0, .int 0, .int 0, .int 0, .int 0, .int 0]))] := hD
  have hK : va_K (dC, dI) vwCl [(td, .int), (tb, .int)] s := hK
  have hl := lv_entry ([.ref h0, .int p0]) (n := 2) (Nat.le_of_ble_eq_true rfl)
  rw [lg_entry_eq]
  generalize (lg_sl ([.ref h0, .int p0]) ++ List.replicate (2 - (lg_sl ([.ref h0, .int p0])).length) Slot.unset).toArray = ls at hl ⊢
  have hl : lv_has ls 2 [(0, .ref h0), (1, .int p0)] := hl
  have kk0 : (0 : Int32).toInt = 0 := by decide
  have kk1024 : (1024 : Int32).toInt = 1024 := by decide
  have kk57344 : (57344 : Int32).toInt = 57344 := by decide
  have kk57376 : (57376 : Int32).toInt = 57376 := by decide
  have kk57408 : (57408 : Int32).toInt = 57408 := by decide
  refine lv_iload_n hx hb dX0_peek_0 rfl (lv_at hl 1 rfl) ?_
  refine lv_iconst (v := 1) hx hb dX0_peek_1 (by decide) ?_
  refine lv_iand hx hb dX0_peek_2 ?_
  have f1 := fz_and1 p0
  refine lv_if_eq (tgt := 8) hx hb dX0_peek_3 (by decide) (fun c1 => ?_) (fun c1 => ?_)
  · have c1 := fz_eq.mp c1
    have kk0 : (0 : Int32).toInt = 0 := by decide
    refine lv_iload_n hx hb dX0_peek_8 rfl (lv_at hl 1 rfl) ?_
    refine lv_if_lt (tgt := 28) hx hb dX0_peek_9 (by decide) (fun c2 => ?_) (fun c2 => ?_)
    · have c2 := fz_lt.mp c2
      have kk0 : (0 : Int32).toInt = 0 := by decide
      refine lv_iload_n hx hb dX0_peek_28 rfl (lv_at hl 1 rfl) ?_
      refine lv_ldc (v := 57344) hx hb hown (hts (.constant RX0 48 (57344)) (by decide +kernel)) dX0_peek_29 ?_
      refine lv_icmp_lt (tgt := 55) hx hb dX0_peek_31 (by decide) (fun c3 => ?_) (fun c3 => ?_)
      · have c3 := fz_lt.mp c3
        have kk57344 : (57344 : Int32).toInt = 57344 := by decide
        refine lv_iload_n hx hb dX0_peek_55 rfl (lv_at hl 1 rfl) ?_
        refine lv_ldc (v := 57376) hx hb hown (hts (.constant RX0 49 (57376)) (by decide +kernel)) dX0_peek_56 ?_
        refine lv_icmp_lt (tgt := 82) hx hb dX0_peek_58 (by decide) (fun c4 => ?_) (fun c4 => ?_)
        · have c4 := fz_lt.mp c4
          have kk57376 : (57376 : Int32).toInt = 57376 := by decide
          refine lv_iload_n hx hb dX0_peek_82 rfl (lv_at hl 1 rfl) ?_
          by_cases e57408 : p0 = 57408
          · subst e57408
            have kk57408 : (57408 : Int32).toInt = 57408 := by decide
            refine lv_lookup (off := 89) (tgt := 172) hx hb dX0_peek_83 (by decide) (by decide) (by decide) ?_
            refine lv_aload_n hx hb dX0_peek_172 rfl (lv_at hl 0 rfl) ?_
            refine va_get (D := (dC, dI)) (ci := 0) (v := .ref oM) (C := RX0) (T := TX0) (N := 6) hx hb hts (by decide +kernel) hown hK hP 0 rfl rfl 1 (by decide) (hts (.fieldLink RX0 16 "UnibusMachine$Bus" "map" "LUnibusMachine$PageMap;") (by decide +kernel)) (fun _ h9 => h9) rfl dX0_peek_173 ?_
            refine va_get (D := (dC, dI)) (ci := 3) (v := .int 0) (C := RX4) (T := TX4) (N := 3) hx hb hts (by decide +kernel) hown hK hP 1 rfl rfl 2 (by decide) (hts (.fieldLink RX0 57 "UnibusMachine$PageMap" "control" "I") (by decide +kernel)) (fun _ h9 => h9) rfl dX0_peek_176 ?_
            have hP9 := hP.sub (ws' := []) [] rfl
            have hD9 := hD.sub (ws' := []) [] (by decide) rfl
            have hK9 := hK.sub (tys' := []) [] rfl
            exact W.iret (v := 0) hx hb hr (fun t ht hW => ⟨⟨0, (), rfl, (by first | (exact dv_pos (by omega)) | (exact dv_zero (by omega) (by omega)) | (exact dv_neg (by omega) (by omega))), by rw [ht]; exact hP9, va_K.moved hW.alike hK9, hD9⟩, hS.F ht⟩) hS.2.2 dX0_peek_179
          have e57408 : p0.toInt ≠ 57408 := fun h => e57408 (fz_eq.mpr (h.trans (by decide)))
          by_cases e57424 : p0 = 57424
          · subst e57424
            have kk57424 : (57424 : Int32).toInt = 57424 := by decide
            refine lv_lookup (off := 97) (tgt := 180) hx hb dX0_peek_83 (by decide) (by decide) (by decide) ?_
            refine lv_aload_n hx hb dX0_peek_180 rfl (lv_at hl 0 rfl) ?_
            refine va_get (D := (dC, dI)) (ci := 0) (v := .ref oK) (C := RX0) (T := TX0) (N := 6) hx hb hts (by decide +kernel) hown hK hP 0 rfl rfl 3 (by decide) (hts (.fieldLink RX0 30 "UnibusMachine$Bus" "keyboard" "LUnibusMachine$Keyboard;") (by decide +kernel)) (fun _ h9 => h9) rfl dX0_peek_181 ?_
            refine va_get (D := (dC, dI)) (ci := 2) (v := .int 0) (C := RX2) (T := TX2) (N := 3) hx hb hts (by decide +kernel) hown hK hP 5 rfl rfl 0 (by decide) (hts (.fieldLink RX0 61 "UnibusMachine$Keyboard" "bits" "I") (by decide +kernel)) (u_same (hts (.sameField "UnibusMachine$Keyboard" "UnibusMachine$Line" "bits" "I") (by decide +kernel))) rfl dX0_peek_184 ?_
            have hP9 := hP.sub (ws' := []) [] rfl
            have hD9 := hD.sub (ws' := []) [] (by decide) rfl
            have hK9 := hK.sub (tys' := []) [] rfl
            exact W.iret (v := 0) hx hb hr (fun t ht hW => ⟨⟨0, (), rfl, (by first | (exact dv_pos (by omega)) | (exact dv_zero (by omega) (by omega)) | (exact dv_neg (by omega) (by omega))), by rw [ht]; exact hP9, va_K.moved hW.alike hK9, hD9⟩, hS.F ht⟩) hS.2.2 dX0_peek_187
          have e57424 : p0.toInt ≠ 57424 := fun h => e57424 (fz_eq.mpr (h.trans (by decide)))
          by_cases e57426 : p0 = 57426
          · subst e57426
            have kk57426 : (57426 : Int32).toInt = 57426 := by decide
            refine lv_lookup (off := 105) (tgt := 188) hx hb dX0_peek_83 (by decide) (by decide) (by decide) ?_
            refine lv_aload_n hx hb dX0_peek_188 rfl (lv_at hl 0 rfl) ?_
            refine va_get (D := (dC, dI)) (ci := 0) (v := .ref oK) (C := RX0) (T := TX0) (N := 6) hx hb hts (by decide +kernel) hown hK hP 0 rfl rfl 3 (by decide) (hts (.fieldLink RX0 30 "UnibusMachine$Bus" "keyboard" "LUnibusMachine$Keyboard;") (by decide +kernel)) (fun _ h9 => h9) rfl dX0_peek_189 ?_
            refine va_get (D := (dC, dI)) (ci := 2) (v := .int 0) (C := RX2) (T := TX2) (N := 3) hx hb hts (by decide +kernel) hown hK hP 5 rfl rfl 2 (by decide) (hts (.fieldLink RX0 64 "UnibusMachine$Keyboard" "character" "I") (by decide +kernel)) (fun _ h9 => h9) rfl dX0_peek_192 ?_
            have hP9 := hP.sub (ws' := []) [] rfl
            have hD9 := hD.sub (ws' := []) [] (by decide) rfl
            have hK9 := hK.sub (tys' := []) [] rfl
            exact W.iret (v := 0) hx hb hr (fun t ht hW => ⟨⟨0, (), rfl, (by first | (exact dv_pos (by omega)) | (exact dv_zero (by omega) (by omega)) | (exact dv_neg (by omega) (by omega))), by rw [ht]; exact hP9, va_K.moved hW.alike hK9, hD9⟩, hS.F ht⟩) hS.2.2 dX0_peek_195
          have e57426 : p0.toInt ≠ 57426 := fun h => e57426 (fz_eq.mpr (h.trans (by decide)))
          by_cases e57428 : p0 = 57428
          · subst e57428
            have kk57428 : (57428 : Int32).toInt = 57428 := by decide
            refine lv_lookup (off := 113) (tgt := 196) hx hb dX0_peek_83 (by decide) (by decide) (by decide) ?_
            refine lv_aload_n hx hb dX0_peek_196 rfl (lv_at hl 0 rfl) ?_
            refine va_get (D := (dC, dI)) (ci := 0) (v := .ref oL) (C := RX0) (T := TX0) (N := 6) hx hb hts (by decide +kernel) hown hK hP 0 rfl rfl 4 (by decide) (hts (.fieldLink RX0 37 "UnibusMachine$Bus" "printer" "LUnibusMachine$Printer;") (by decide +kernel)) (fun _ h9 => h9) rfl dX0_peek_197 ?_
            refine va_get (D := (dC, dI)) (ci := 4) (v := .int 128) (C := RX5) (T := TX5) (N := 7) hx hb hts (by decide +kernel) hown hK hP 6 rfl rfl 0 (by decide) (hts (.fieldLink RX0 67 "UnibusMachine$Printer" "bits" "I") (by decide +kernel)) (u_same (hts (.sameField "UnibusMachine$Printer" "UnibusMachine$Line" "bits" "I") (by decide +kernel))) rfl dX0_peek_200 ?_
            have hP9 := hP.sub (ws' := []) [] rfl
            have hD9 := hD.sub (ws' := []) [] (by decide) rfl
            have hK9 := hK.sub (tys' := []) [] rfl
            exact W.iret (v := 128) hx hb hr (fun t ht hW => ⟨⟨128, (), rfl, (by first | (exact dv_pos (by omega)) | (exact dv_zero (by omega) (by omega)) | (exact dv_neg (by omega) (by omega))), by rw [ht]; exact hP9, va_K.moved hW.alike hK9, hD9⟩, hS.F ht⟩) hS.2.2 dX0_peek_203
          have e57428 : p0.toInt ≠ 57428 := fun h => e57428 (fz_eq.mpr (h.trans (by decide)))
          by_cases e57430 : p0 = 57430
          · subst e57430
            have kk57430 : (57430 : Int32).toInt = 57430 := by decide
            refine lv_lookup (off := 121) (tgt := 204) hx hb dX0_peek_83 (by decide) (by decide) (by decide) ?_
            refine lv_iconst (v := 0) hx hb dX0_peek_204 (by decide) ?_
            have hP9 := hP.sub (ws' := []) [] rfl
            have hD9 := hD.sub (ws' := []) [] (by decide) rfl
            have hK9 := hK.sub (tys' := []) [] rfl
            exact W.iret (v := 0) hx hb hr (fun t ht hW => ⟨⟨0, (), rfl, (by first | (exact dv_pos (by omega)) | (exact dv_zero (by omega) (by omega)) | (exact dv_neg (by omega) (by omega))), by rw [ht]; exact hP9, va_K.moved hW.alike hK9, hD9⟩, hS.F ht⟩) hS.2.2 dX0_peek_205
          have e57430 : p0.toInt ≠ 57430 := fun h => e57430 (fz_eq.mpr (h.trans (by decide)))
          by_cases e57440 : p0 = 57440
          · subst e57440
            have kk57440 : (57440 : Int32).toInt = 57440 := by decide
            refine lv_lookup (off := 123) (tgt := 206) hx hb dX0_peek_83 (by decide) (by decide) (by decide) ?_
            refine lv_aload_n hx hb dX0_peek_206 rfl (lv_at hl 0 rfl) ?_
            refine va_get (D := (dC, dI)) (ci := 0) (v := .ref oD) (C := RX0) (T := TX0) (N := 6) hx hb hts (by decide +kernel) hown hK hP 0 rfl rfl 5 (by decide) (hts (.fieldLink RX0 44 "UnibusMachine$Bus" "drive" "LUnibusMachine$Drive;") (by decide +kernel)) (fun _ h9 => h9) rfl dX0_peek_207 ?_
            refine va_get (D := (dC, dI)) (ci := 1) (v := .int 128) (C := RX1) (T := TX1) (N := 10) hx hb hts (by decide +kernel) hown hK hP 7 rfl rfl 0 (by decide) (hts (.fieldLink RX0 68 "UnibusMachine$Drive" "bits" "I") (by decide +kernel)) (u_same (hts (.sameField "UnibusMachine$Drive" "UnibusMachine$Line" "bits" "I") (by decide +kernel))) rfl dX0_peek_210 ?_
            refine lv_aload_n hx hb dX0_peek_213 rfl (lv_at hl 0 rfl) ?_
            refine va_get (D := (dC, dI)) (ci := 0) (v := .ref oD) (C := RX0) (T := TX0) (N := 6) hx hb hts (by decide +kernel) hown hK hP 0 rfl rfl 5 (by decide) (hts (.fieldLink RX0 44 "UnibusMachine$Bus" "drive" "LUnibusMachine$Drive;") (by decide +kernel)) (fun _ h9 => h9) rfl dX0_peek_214 ?_
            refine va_get (D := (dC, dI)) (ci := 1) (v := .int 0) (C := RX1) (T := TX1) (N := 10) hx hb hts (by decide +kernel) hown hK hP 7 rfl rfl 3 (by decide) (hts (.fieldLink RX0 69 "UnibusMachine$Drive" "writing" "I") (by decide +kernel)) (fun _ h9 => h9) rfl dX0_peek_217 ?_
            refine lv_ior hx hb dX0_peek_220 ?_
            refine lv_topi (fun y5 ey5 => ?_)
            obtain rfl : y5 = 128 := by rw [ey5]; decide
            refine lv_aload_n hx hb dX0_peek_221 rfl (lv_at hl 0 rfl) ?_
            refine va_get (D := (dC, dI)) (ci := 0) (v := .ref oD) (C := RX0) (T := TX0) (N := 6) hx hb hts (by decide +kernel) hown hK hP 0 rfl rfl 5 (by decide) (hts (.fieldLink RX0 44 "UnibusMachine$Bus" "drive" "LUnibusMachine$Drive;") (by decide +kernel)) (fun _ h9 => h9) rfl dX0_peek_222 ?_
            refine va_get (D := (dC, dI)) (ci := 1) (v := .int 0) (C := RX1) (T := TX1) (N := 10) hx hb hts (by decide +kernel) hown hK hP 7 rfl rfl 4 (by decide) (hts (.fieldLink RX0 72 "UnibusMachine$Drive" "wrong" "I") (by decide +kernel)) (fun _ h9 => h9) rfl dX0_peek_225 ?_
            refine lv_ior hx hb dX0_peek_228 ?_
            refine lv_topi (fun y6 ey6 => ?_)
            obtain rfl : y6 = 128 := by rw [ey6]; decide
            have hP9 := hP.sub (ws' := []) [] rfl
            have hD9 := hD.sub (ws' := []) [] (by decide) rfl
            have hK9 := hK.sub (tys' := []) [] rfl
            exact W.iret (v := 128) hx hb hr (fun t ht hW => ⟨⟨128, (), rfl, (by first | (exact dv_pos (by omega)) | (exact dv_zero (by omega) (by omega)) | (exact dv_neg (by omega) (by omega))), by rw [ht]; exact hP9, va_K.moved hW.alike hK9, hD9⟩, hS.F ht⟩) hS.2.2 dX0_peek_229
          have e57440 : p0.toInt ≠ 57440 := fun h => e57440 (fz_eq.mpr (h.trans (by decide)))
          by_cases e57442 : p0 = 57442
          · subst e57442
            have kk57442 : (57442 : Int32).toInt = 57442 := by decide
            refine lv_lookup (off := 147) (tgt := 230) hx hb dX0_peek_83 (by decide) (by decide) (by decide) ?_
            refine lv_aload_n hx hb dX0_peek_230 rfl (lv_at hl 0 rfl) ?_
            refine va_get (D := (dC, dI)) (ci := 0) (v := .ref oD) (C := RX0) (T := TX0) (N := 6) hx hb hts (by decide +kernel) hown hK hP 0 rfl rfl 5 (by decide) (hts (.fieldLink RX0 44 "UnibusMachine$Bus" "drive" "LUnibusMachine$Drive;") (by decide +kernel)) (fun _ h9 => h9) rfl dX0_peek_231 ?_
            refine va_get (D := (dC, dI)) (ci := 1) (v := .int 0) (C := RX1) (T := TX1) (N := 10) hx hb hts (by decide +kernel) hown hK hP 7 rfl rfl 5 (by decide) (hts (.fieldLink RX0 75 "UnibusMachine$Drive" "count" "I") (by decide +kernel)) (fun _ h9 => h9) rfl dX0_peek_234 ?_
            have hP9 := hP.sub (ws' := []) [] rfl
            have hD9 := hD.sub (ws' := []) [] (by decide) rfl
            have hK9 := hK.sub (tys' := []) [] rfl
            exact W.iret (v := 0) hx hb hr (fun t ht hW => ⟨⟨0, (), rfl, (by first | (exact dv_pos (by omega)) | (exact dv_zero (by omega) (by omega)) | (exact dv_neg (by omega) (by omega))), by rw [ht]; exact hP9, va_K.moved hW.alike hK9, hD9⟩, hS.F ht⟩) hS.2.2 dX0_peek_237
          have e57442 : p0.toInt ≠ 57442 := fun h => e57442 (fz_eq.mpr (h.trans (by decide)))
          by_cases e57444 : p0 = 57444
          · subst e57444
            have kk57444 : (57444 : Int32).toInt = 57444 := by decide
            refine lv_lookup (off := 155) (tgt := 238) hx hb dX0_peek_83 (by decide) (by decide) (by decide) ?_
            refine lv_aload_n hx hb dX0_peek_238 rfl (lv_at hl 0 rfl) ?_
            refine va_get (D := (dC, dI)) (ci := 0) (v := .ref oD) (C := RX0) (T := TX0) (N := 6) hx hb hts (by decide +kernel) hown hK hP 0 rfl rfl 5 (by decide) (hts (.fieldLink RX0 44 "UnibusMachine$Bus" "drive" "LUnibusMachine$Drive;") (by decide +kernel)) (fun _ h9 => h9) rfl dX0_peek_239 ?_
            refine va_get (D := (dC, dI)) (ci := 1) (v := .int 0) (C := RX1) (T := TX1) (N := 10) hx hb hts (by decide +kernel) hown hK hP 7 rfl rfl 6 (by decide) (hts (.fieldLink RX0 78 "UnibusMachine$Drive" "address" "I") (by decide +kernel)) (fun _ h9 => h9) rfl dX0_peek_242 ?_
            have hP9 := hP.sub (ws' := []) [] rfl
            have hD9 := hD.sub (ws' := []) [] (by decide) rfl
            have hK9 := hK.sub (tys' := []) [] rfl
            exact W.iret (v := 0) hx hb hr (fun t ht hW => ⟨⟨0, (), rfl, (by first | (exact dv_pos (by omega)) | (exact dv_zero (by omega) (by omega)) | (exact dv_neg (by omega) (by omega))), by rw [ht]; exact hP9, va_K.moved hW.alike hK9, hD9⟩, hS.F ht⟩) hS.2.2 dX0_peek_245
          have e57444 : p0.toInt ≠ 57444 := fun h => e57444 (fz_eq.mpr (h.trans (by decide)))
          by_cases e57446 : p0 = 57446
          · subst e57446
            have kk57446 : (57446 : Int32).toInt = 57446 := by decide
            refine lv_lookup (off := 163) (tgt := 246) hx hb dX0_peek_83 (by decide) (by decide) (by decide) ?_
            refine lv_aload_n hx hb dX0_peek_246 rfl (lv_at hl 0 rfl) ?_
            refine va_get (D := (dC, dI)) (ci := 0) (v := .ref oD) (C := RX0) (T := TX0) (N := 6) hx hb hts (by decide +kernel) hown hK hP 0 rfl rfl 5 (by decide) (hts (.fieldLink RX0 44 "UnibusMachine$Bus" "drive" "LUnibusMachine$Drive;") (by decide +kernel)) (fun _ h9 => h9) rfl dX0_peek_247 ?_
            refine va_get (D := (dC, dI)) (ci := 1) (v := .int 0) (C := RX1) (T := TX1) (N := 10) hx hb hts (by decide +kernel) hown hK hP 7 rfl rfl 7 (by decide) (hts (.fieldLink RX0 81 "UnibusMachine$Drive" "sector" "I") (by decide +kernel)) (fun _ h9 => h9) rfl dX0_peek_250 ?_
            have hP9 := hP.sub (ws' := []) [] rfl
            have hD9 := hD.sub (ws' := []) [] (by decide) rfl
            have hK9 := hK.sub (tys' := []) [] rfl
            exact W.iret (v := 0) hx hb hr (fun t ht hW => ⟨⟨0, (), rfl, (by first | (exact dv_pos (by omega)) | (exact dv_zero (by omega) (by omega)) | (exact dv_neg (by omega) (by omega))), by rw [ht]; exact hP9, va_K.moved hW.alike hK9, hD9⟩, hS.F ht⟩) hS.2.2 dX0_peek_253
          have e57446 : p0.toInt ≠ 57446 := fun h => e57446 (fz_eq.mpr (h.trans (by decide)))
          by_cases e57470 : p0 = 57470
          · subst e57470
            have kk57470 : (57470 : Int32).toInt = 57470 := by decide
            refine lv_lookup (off := 171) (tgt := 254) hx hb dX0_peek_83 (by decide) (by decide) (by decide) ?_
            refine lv_aload_n hx hb dX0_peek_254 rfl (lv_at hl 0 rfl) ?_
            refine va_get (D := (dC, dI)) (ci := 0) (v := .ref oS) (C := RX0) (T := TX0) (N := 6) hx hb hts (by decide +kernel) hown hK hP 0 rfl rfl 2 (by decide) (hts (.fieldLink RX0 23 "UnibusMachine$Bus" "status" "LUnibusMachine$Status;") (by decide +kernel)) (fun _ h9 => h9) rfl dX0_peek_255 ?_
            refine va_get (D := (dC, dI)) (ci := 6) (v := .int 0) (C := RX7) (T := TX7) (N := 2) hx hb hts (by decide +kernel) hown hK hP 4 rfl rfl 0 (by decide) (hts (.fieldLink RX0 84 "UnibusMachine$Status" "now" "I") (by decide +kernel)) (fun _ h9 => h9) rfl dX0_peek_258 ?_
            have hP9 := hP.sub (ws' := []) [] rfl
            have hD9 := hD.sub (ws' := []) [] (by decide) rfl
            have hK9 := hK.sub (tys' := []) [] rfl
            exact W.iret (v := 0) hx hb hr (fun t ht hW => ⟨⟨0, (), rfl, (by first | (exact dv_pos (by omega)) | (exact dv_zero (by omega) (by omega)) | (exact dv_neg (by omega) (by omega))), by rw [ht]; exact hP9, va_K.moved hW.alike hK9, hD9⟩, hS.F ht⟩) hS.2.2 dX0_peek_261
          have e57470 : p0.toInt ≠ 57470 := fun h => e57470 (fz_eq.mpr (h.trans (by decide)))
          refine lv_lookup (off := 179) (tgt := 262) hx hb dX0_peek_83 (by decide) (by simp [Op.lookupswitch.offset, Ne.symm e57408, e57408, Ne.symm e57424, e57424, Ne.symm e57426, e57426, Ne.symm e57428, e57428, Ne.symm e57430, e57430, Ne.symm e57440, e57440, Ne.symm e57442, e57442, Ne.symm e57444, e57444, Ne.symm e57446, e57446, Ne.symm e57470, e57470]) (by decide) ?_
          refine lv_iconst (v := (-1)) hx hb dX0_peek_262 (by decide) ?_
          have hP9 := hP.sub (ws' := []) [] rfl
          have hD9 := hD.sub (ws' := []) [] (by decide) rfl
          have hK9 := hK.sub (tys' := []) [] rfl
          exact W.iret (v := (-1)) hx hb hr (fun t ht hW => ⟨⟨(-1), (), rfl, (by first | (exact dv_pos (by omega)) | (exact dv_zero (by omega) (by omega)) | (exact dv_neg (by omega) (by omega))), by rw [ht]; exact hP9, va_K.moved hW.alike hK9, hD9⟩, hS.F ht⟩) hS.2.2 dX0_peek_263
        · have c4 := fz_nlt.mp c4
          have kk57376 : (57376 : Int32).toInt = 57376 := by decide
          refine lv_iload_n hx hb dX0_peek_61 rfl (lv_at hl 1 rfl) ?_
          refine lv_ldc (v := 57408) hx hb hown (hts (.constant RX0 53 (57408)) (by decide +kernel)) dX0_peek_62 ?_
          refine lv_icmp_ge (tgt := 82) hx hb dX0_peek_64 (by decide) (fun c7 => ?_) (fun c7 => ?_)
          · have c7 := fz_le.mp c7
            have kk57408 : (57408 : Int32).toInt = 57408 := by decide
            refine lv_iload_n hx hb dX0_peek_82 rfl (lv_at hl 1 rfl) ?_
            by_cases e57408 : p0 = 57408
            · subst e57408
              have kk57408 : (57408 : Int32).toInt = 57408 := by decide
              refine lv_lookup (off := 89) (tgt := 172) hx hb dX0_peek_83 (by decide) (by decide) (by decide) ?_
              refine lv_aload_n hx hb dX0_peek_172 rfl (lv_at hl 0 rfl) ?_
              refine va_get (D := (dC, dI)) (ci := 0) (v := .ref oM) (C := RX0) (T := TX0) (N := 6) hx hb hts (by decide +kernel) hown hK hP 0 rfl rfl 1 (by decide) (hts (.fieldLink RX0 16 "UnibusMachine$Bus" "map" "LUnibusMachine$PageMap;") (by decide +kernel)) (fun _ h9 => h9) rfl dX0_peek_173 ?_
              refine va_get (D := (dC, dI)) (ci := 3) (v := .int 0) (C := RX4) (T := TX4) (N := 3) hx hb hts (by decide +kernel) hown hK hP 1 rfl rfl 2 (by decide) (hts (.fieldLink RX0 57 "UnibusMachine$PageMap" "control" "I") (by decide +kernel)) (fun _ h9 => h9) rfl dX0_peek_176 ?_
              have hP9 := hP.sub (ws' := []) [] rfl
              have hD9 := hD.sub (ws' := []) [] (by decide) rfl
              have hK9 := hK.sub (tys' := []) [] rfl
              exact W.iret (v := 0) hx hb hr (fun t ht hW => ⟨⟨0, (), rfl, (by first | (exact dv_pos (by omega)) | (exact dv_zero (by omega) (by omega)) | (exact dv_neg (by omega) (by omega))), by rw [ht]; exact hP9, va_K.moved hW.alike hK9, hD9⟩, hS.F ht⟩) hS.2.2 dX0_peek_179
            have e57408 : p0.toInt ≠ 57408 := fun h => e57408 (fz_eq.mpr (h.trans (by decide)))
            by_cases e57424 : p0 = 57424
            · subst e57424
              have kk57424 : (57424 : Int32).toInt = 57424 := by decide
              refine lv_lookup (off := 97) (tgt := 180) hx hb dX0_peek_83 (by decide) (by decide) (by decide) ?_
              refine lv_aload_n hx hb dX0_peek_180 rfl (lv_at hl 0 rfl) ?_
              refine va_get (D := (dC, dI)) (ci := 0) (v := .ref oK) (C := RX0) (T := TX0) (N := 6) hx hb hts (by decide +kernel) hown hK hP 0 rfl rfl 3 (by decide) (hts (.fieldLink RX0 30 "UnibusMachine$Bus" "keyboard" "LUnibusMachine$Keyboard;") (by decide +kernel)) (fun _ h9 => h9) rfl dX0_peek_181 ?_
              refine va_get (D := (dC, dI)) (ci := 2) (v := .int 0) (C := RX2) (T := TX2) (N := 3) hx hb hts (by decide +kernel) hown hK hP 5 rfl rfl 0 (by decide) (hts (.fieldLink RX0 61 "UnibusMachine$Keyboard" "bits" "I") (by decide +kernel)) (u_same (hts (.sameField "UnibusMachine$Keyboard" "UnibusMachine$Line" "bits" "I") (by decide +kernel))) rfl dX0_peek_184 ?_
              have hP9 := hP.sub (ws' := []) [] rfl
              have hD9 := hD.sub (ws' := []) [] (by decide) rfl
              have hK9 := hK.sub (tys' := []) [] rfl
              exact W.iret (v := 0) hx hb hr (fun t ht hW => ⟨⟨0, (), rfl, (by first | (exact dv_pos (by omega)) | (exact dv_zero (by omega) (by omega)) | (exact dv_neg (by omega) (by omega))), by rw [ht]; exact hP9, va_K.moved hW.alike hK9, hD9⟩, hS.F ht⟩) hS.2.2 dX0_peek_187
            have e57424 : p0.toInt ≠ 57424 := fun h => e57424 (fz_eq.mpr (h.trans (by decide)))
            by_cases e57426 : p0 = 57426
            · subst e57426
              have kk57426 : (57426 : Int32).toInt = 57426 := by decide
              refine lv_lookup (off := 105) (tgt := 188) hx hb dX0_peek_83 (by decide) (by decide) (by decide) ?_
              refine lv_aload_n hx hb dX0_peek_188 rfl (lv_at hl 0 rfl) ?_
              refine va_get (D := (dC, dI)) (ci := 0) (v := .ref oK) (C := RX0) (T := TX0) (N := 6) hx hb hts (by decide +kernel) hown hK hP 0 rfl rfl 3 (by decide) (hts (.fieldLink RX0 30 "UnibusMachine$Bus" "keyboard" "LUnibusMachine$Keyboard;") (by decide +kernel)) (fun _ h9 => h9) rfl dX0_peek_189 ?_
              refine va_get (D := (dC, dI)) (ci := 2) (v := .int 0) (C := RX2) (T := TX2) (N := 3) hx hb hts (by decide +kernel) hown hK hP 5 rfl rfl 2 (by decide) (hts (.fieldLink RX0 64 "UnibusMachine$Keyboard" "character" "I") (by decide +kernel)) (fun _ h9 => h9) rfl dX0_peek_192 ?_
              have hP9 := hP.sub (ws' := []) [] rfl
              have hD9 := hD.sub (ws' := []) [] (by decide) rfl
              have hK9 := hK.sub (tys' := []) [] rfl
              exact W.iret (v := 0) hx hb hr (fun t ht hW => ⟨⟨0, (), rfl, (by first | (exact dv_pos (by omega)) | (exact dv_zero (by omega) (by omega)) | (exact dv_neg (by omega) (by omega))), by rw [ht]; exact hP9, va_K.moved hW.alike hK9, hD9⟩, hS.F ht⟩) hS.2.2 dX0_peek_195
            have e57426 : p0.toInt ≠ 57426 := fun h => e57426 (fz_eq.mpr (h.trans (by decide)))
            by_cases e57428 : p0 = 57428
            · subst e57428
              have kk57428 : (57428 : Int32).toInt = 57428 := by decide
              refine lv_lookup (off := 113) (tgt := 196) hx hb dX0_peek_83 (by decide) (by decide) (by decide) ?_
              refine lv_aload_n hx hb dX0_peek_196 rfl (lv_at hl 0 rfl) ?_
              refine va_get (D := (dC, dI)) (ci := 0) (v := .ref oL) (C := RX0) (T := TX0) (N := 6) hx hb hts (by decide +kernel) hown hK hP 0 rfl rfl 4 (by decide) (hts (.fieldLink RX0 37 "UnibusMachine$Bus" "printer" "LUnibusMachine$Printer;") (by decide +kernel)) (fun _ h9 => h9) rfl dX0_peek_197 ?_
              refine va_get (D := (dC, dI)) (ci := 4) (v := .int 128) (C := RX5) (T := TX5) (N := 7) hx hb hts (by decide +kernel) hown hK hP 6 rfl rfl 0 (by decide) (hts (.fieldLink RX0 67 "UnibusMachine$Printer" "bits" "I") (by decide +kernel)) (u_same (hts (.sameField "UnibusMachine$Printer" "UnibusMachine$Line" "bits" "I") (by decide +kernel))) rfl dX0_peek_200 ?_
              have hP9 := hP.sub (ws' := []) [] rfl
              have hD9 := hD.sub (ws' := []) [] (by decide) rfl
              have hK9 := hK.sub (tys' := []) [] rfl
              exact W.iret (v := 128) hx hb hr (fun t ht hW => ⟨⟨128, (), rfl, (by first | (exact dv_pos (by omega)) | (exact dv_zero (by omega) (by omega)) | (exact dv_neg (by omega) (by omega))), by rw [ht]; exact hP9, va_K.moved hW.alike hK9, hD9⟩, hS.F ht⟩) hS.2.2 dX0_peek_203
            have e57428 : p0.toInt ≠ 57428 := fun h => e57428 (fz_eq.mpr (h.trans (by decide)))
            by_cases e57430 : p0 = 57430
            · subst e57430
              have kk57430 : (57430 : Int32).toInt = 57430 := by decide
              refine lv_lookup (off := 121) (tgt := 204) hx hb dX0_peek_83 (by decide) (by decide) (by decide) ?_
              refine lv_iconst (v := 0) hx hb dX0_peek_204 (by decide) ?_
              have hP9 := hP.sub (ws' := []) [] rfl
              have hD9 := hD.sub (ws' := []) [] (by decide) rfl
              have hK9 := hK.sub (tys' := []) [] rfl
              exact W.iret (v := 0) hx hb hr (fun t ht hW => ⟨⟨0, (), rfl, (by first | (exact dv_pos (by omega)) | (exact dv_zero (by omega) (by omega)) | (exact dv_neg (by omega) (by omega))), by rw [ht]; exact hP9, va_K.moved hW.alike hK9, hD9⟩, hS.F ht⟩) hS.2.2 dX0_peek_205
            have e57430 : p0.toInt ≠ 57430 := fun h => e57430 (fz_eq.mpr (h.trans (by decide)))
            by_cases e57440 : p0 = 57440
            · subst e57440
              have kk57440 : (57440 : Int32).toInt = 57440 := by decide
              refine lv_lookup (off := 123) (tgt := 206) hx hb dX0_peek_83 (by decide) (by decide) (by decide) ?_
              refine lv_aload_n hx hb dX0_peek_206 rfl (lv_at hl 0 rfl) ?_
              refine va_get (D := (dC, dI)) (ci := 0) (v := .ref oD) (C := RX0) (T := TX0) (N := 6) hx hb hts (by decide +kernel) hown hK hP 0 rfl rfl 5 (by decide) (hts (.fieldLink RX0 44 "UnibusMachine$Bus" "drive" "LUnibusMachine$Drive;") (by decide +kernel)) (fun _ h9 => h9) rfl dX0_peek_207 ?_
              refine va_get (D := (dC, dI)) (ci := 1) (v := .int 128) (C := RX1) (T := TX1) (N := 10) hx hb hts (by decide +kernel) hown hK hP 7 rfl rfl 0 (by decide) (hts (.fieldLink RX0 68 "UnibusMachine$Drive" "bits" "I") (by decide +kernel)) (u_same (hts (.sameField "UnibusMachine$Drive" "UnibusMachine$Line" "bits" "I") (by decide +kernel))) rfl dX0_peek_210 ?_
              refine lv_aload_n hx hb dX0_peek_213 rfl (lv_at hl 0 rfl) ?_
              refine va_get (D := (dC, dI)) (ci := 0) (v := .ref oD) (C := RX0) (T := TX0) (N := 6) hx hb hts (by decide +kernel) hown hK hP 0 rfl rfl 5 (by decide) (hts (.fieldLink RX0 44 "UnibusMachine$Bus" "drive" "LUnibusMachine$Drive;") (by decide +kernel)) (fun _ h9 => h9) rfl dX0_peek_214 ?_
              refine va_get (D := (dC, dI)) (ci := 1) (v := .int 0) (C := RX1) (T := TX1) (N := 10) hx hb hts (by decide +kernel) hown hK hP 7 rfl rfl 3 (by decide) (hts (.fieldLink RX0 69 "UnibusMachine$Drive" "writing" "I") (by decide +kernel)) (fun _ h9 => h9) rfl dX0_peek_217 ?_
              refine lv_ior hx hb dX0_peek_220 ?_
              refine lv_topi (fun y8 ey8 => ?_)
              obtain rfl : y8 = 128 := by rw [ey8]; decide
              refine lv_aload_n hx hb dX0_peek_221 rfl (lv_at hl 0 rfl) ?_
              refine va_get (D := (dC, dI)) (ci := 0) (v := .ref oD) (C := RX0) (T := TX0) (N := 6) hx hb hts (by decide +kernel) hown hK hP 0 rfl rfl 5 (by decide) (hts (.fieldLink RX0 44 "UnibusMachine$Bus" "drive" "LUnibusMachine$Drive;") (by decide +kernel)) (fun _ h9 => h9) rfl dX0_peek_222 ?_
              refine va_get (D := (dC, dI)) (ci := 1) (v := .int 0) (C := RX1) (T := TX1) (N := 10) hx hb hts (by decide +kernel) hown hK hP 7 rfl rfl 4 (by decide) (hts (.fieldLink RX0 72 "UnibusMachine$Drive" "wrong" "I") (by decide +kernel)) (fun _ h9 => h9) rfl dX0_peek_225 ?_
              refine lv_ior hx hb dX0_peek_228 ?_
              refine lv_topi (fun y9 ey9 => ?_)
              obtain rfl : y9 = 128 := by rw [ey9]; decide
              have hP9 := hP.sub (ws' := []) [] rfl
              have hD9 := hD.sub (ws' := []) [] (by decide) rfl
              have hK9 := hK.sub (tys' := []) [] rfl
              exact W.iret (v := 128) hx hb hr (fun t ht hW => ⟨⟨128, (), rfl, (by first | (exact dv_pos (by omega)) | (exact dv_zero (by omega) (by omega)) | (exact dv_neg (by omega) (by omega))), by rw [ht]; exact hP9, va_K.moved hW.alike hK9, hD9⟩, hS.F ht⟩) hS.2.2 dX0_peek_229
            have e57440 : p0.toInt ≠ 57440 := fun h => e57440 (fz_eq.mpr (h.trans (by decide)))
            by_cases e57442 : p0 = 57442
            · subst e57442
              have kk57442 : (57442 : Int32).toInt = 57442 := by decide
              refine lv_lookup (off := 147) (tgt := 230) hx hb dX0_peek_83 (by decide) (by decide) (by decide) ?_
              refine lv_aload_n hx hb dX0_peek_230 rfl (lv_at hl 0 rfl) ?_
              refine va_get (D := (dC, dI)) (ci := 0) (v := .ref oD) (C := RX0) (T := TX0) (N := 6) hx hb hts (by decide +kernel) hown hK hP 0 rfl rfl 5 (by decide) (hts (.fieldLink RX0 44 "UnibusMachine$Bus" "drive" "LUnibusMachine$Drive;") (by decide +kernel)) (fun _ h9 => h9) rfl dX0_peek_231 ?_
              refine va_get (D := (dC, dI)) (ci := 1) (v := .int 0) (C := RX1) (T := TX1) (N := 10) hx hb hts (by decide +kernel) hown hK hP 7 rfl rfl 5 (by decide) (hts (.fieldLink RX0 75 "UnibusMachine$Drive" "count" "I") (by decide +kernel)) (fun _ h9 => h9) rfl dX0_peek_234 ?_
              have hP9 := hP.sub (ws' := []) [] rfl
              have hD9 := hD.sub (ws' := []) [] (by decide) rfl
              have hK9 := hK.sub (tys' := []) [] rfl
              exact W.iret (v := 0) hx hb hr (fun t ht hW => ⟨⟨0, (), rfl, (by first | (exact dv_pos (by omega)) | (exact dv_zero (by omega) (by omega)) | (exact dv_neg (by omega) (by omega))), by rw [ht]; exact hP9, va_K.moved hW.alike hK9, hD9⟩, hS.F ht⟩) hS.2.2 dX0_peek_237
            have e57442 : p0.toInt ≠ 57442 := fun h => e57442 (fz_eq.mpr (h.trans (by decide)))
            by_cases e57444 : p0 = 57444
            · subst e57444
              have kk57444 : (57444 : Int32).toInt = 57444 := by decide
              refine lv_lookup (off := 155) (tgt := 238) hx hb dX0_peek_83 (by decide) (by decide) (by decide) ?_
              refine lv_aload_n hx hb dX0_peek_238 rfl (lv_at hl 0 rfl) ?_
              refine va_get (D := (dC, dI)) (ci := 0) (v := .ref oD) (C := RX0) (T := TX0) (N := 6) hx hb hts (by decide +kernel) hown hK hP 0 rfl rfl 5 (by decide) (hts (.fieldLink RX0 44 "UnibusMachine$Bus" "drive" "LUnibusMachine$Drive;") (by decide +kernel)) (fun _ h9 => h9) rfl dX0_peek_239 ?_
              refine va_get (D := (dC, dI)) (ci := 1) (v := .int 0) (C := RX1) (T := TX1) (N := 10) hx hb hts (by decide +kernel) hown hK hP 7 rfl rfl 6 (by decide) (hts (.fieldLink RX0 78 "UnibusMachine$Drive" "address" "I") (by decide +kernel)) (fun _ h9 => h9) rfl dX0_peek_242 ?_
              have hP9 := hP.sub (ws' := []) [] rfl
              have hD9 := hD.sub (ws' := []) [] (by decide) rfl
              have hK9 := hK.sub (tys' := []) [] rfl
              exact W.iret (v := 0) hx hb hr (fun t ht hW => ⟨⟨0, (), rfl, (by first | (exact dv_pos (by omega)) | (exact dv_zero (by omega) (by omega)) | (exact dv_neg (by omega) (by omega))), by rw [ht]; exact hP9, va_K.moved hW.alike hK9, hD9⟩, hS.F ht⟩) hS.2.2 dX0_peek_245
            have e57444 : p0.toInt ≠ 57444 := fun h => e57444 (fz_eq.mpr (h.trans (by decide)))
            by_cases e57446 : p0 = 57446
            · subst e57446
              have kk57446 : (57446 : Int32).toInt = 57446 := by decide
              refine lv_lookup (off := 163) (tgt := 246) hx hb dX0_peek_83 (by decide) (by decide) (by decide) ?_
              refine lv_aload_n hx hb dX0_peek_246 rfl (lv_at hl 0 rfl) ?_
              refine va_get (D := (dC, dI)) (ci := 0) (v := .ref oD) (C := RX0) (T := TX0) (N := 6) hx hb hts (by decide +kernel) hown hK hP 0 rfl rfl 5 (by decide) (hts (.fieldLink RX0 44 "UnibusMachine$Bus" "drive" "LUnibusMachine$Drive;") (by decide +kernel)) (fun _ h9 => h9) rfl dX0_peek_247 ?_
              refine va_get (D := (dC, dI)) (ci := 1) (v := .int 0) (C := RX1) (T := TX1) (N := 10) hx hb hts (by decide +kernel) hown hK hP 7 rfl rfl 7 (by decide) (hts (.fieldLink RX0 81 "UnibusMachine$Drive" "sector" "I") (by decide +kernel)) (fun _ h9 => h9) rfl dX0_peek_250 ?_
              have hP9 := hP.sub (ws' := []) [] rfl
              have hD9 := hD.sub (ws' := []) [] (by decide) rfl
              have hK9 := hK.sub (tys' := []) [] rfl
              exact W.iret (v := 0) hx hb hr (fun t ht hW => ⟨⟨0, (), rfl, (by first | (exact dv_pos (by omega)) | (exact dv_zero (by omega) (by omega)) | (exact dv_neg (by omega) (by omega))), by rw [ht]; exact hP9, va_K.moved hW.alike hK9, hD9⟩, hS.F ht⟩) hS.2.2 dX0_peek_253
            have e57446 : p0.toInt ≠ 57446 := fun h => e57446 (fz_eq.mpr (h.trans (by decide)))
            by_cases e57470 : p0 = 57470
            · subst e57470
              have kk57470 : (57470 : Int32).toInt = 57470 := by decide
              refine lv_lookup (off := 171) (tgt := 254) hx hb dX0_peek_83 (by decide) (by decide) (by decide) ?_
              refine lv_aload_n hx hb dX0_peek_254 rfl (lv_at hl 0 rfl) ?_
              refine va_get (D := (dC, dI)) (ci := 0) (v := .ref oS) (C := RX0) (T := TX0) (N := 6) hx hb hts (by decide +kernel) hown hK hP 0 rfl rfl 2 (by decide) (hts (.fieldLink RX0 23 "UnibusMachine$Bus" "status" "LUnibusMachine$Status;") (by decide +kernel)) (fun _ h9 => h9) rfl dX0_peek_255 ?_
              refine va_get (D := (dC, dI)) (ci := 6) (v := .int 0) (C := RX7) (T := TX7) (N := 2) hx hb hts (by decide +kernel) hown hK hP 4 rfl rfl 0 (by decide) (hts (.fieldLink RX0 84 "UnibusMachine$Status" "now" "I") (by decide +kernel)) (fun _ h9 => h9) rfl dX0_peek_258 ?_
              have hP9 := hP.sub (ws' := []) [] rfl
              have hD9 := hD.sub (ws' := []) [] (by decide) rfl
              have hK9 := hK.sub (tys' := []) [] rfl
              exact W.iret (v := 0) hx hb hr (fun t ht hW => ⟨⟨0, (), rfl, (by first | (exact dv_pos (by omega)) | (exact dv_zero (by omega) (by omega)) | (exact dv_neg (by omega) (by omega))), by rw [ht]; exact hP9, va_K.moved hW.alike hK9, hD9⟩, hS.F ht⟩) hS.2.2 dX0_peek_261
            have e57470 : p0.toInt ≠ 57470 := fun h => e57470 (fz_eq.mpr (h.trans (by decide)))
            refine lv_lookup (off := 179) (tgt := 262) hx hb dX0_peek_83 (by decide) (by simp [Op.lookupswitch.offset, Ne.symm e57408, e57408, Ne.symm e57424, e57424, Ne.symm e57426, e57426, Ne.symm e57428, e57428, Ne.symm e57430, e57430, Ne.symm e57440, e57440, Ne.symm e57442, e57442, Ne.symm e57444, e57444, Ne.symm e57446, e57446, Ne.symm e57470, e57470]) (by decide) ?_
            refine lv_iconst (v := (-1)) hx hb dX0_peek_262 (by decide) ?_
            have hP9 := hP.sub (ws' := []) [] rfl
            have hD9 := hD.sub (ws' := []) [] (by decide) rfl
            have hK9 := hK.sub (tys' := []) [] rfl
            exact W.iret (v := (-1)) hx hb hr (fun t ht hW => ⟨⟨(-1), (), rfl, (by first | (exact dv_pos (by omega)) | (exact dv_zero (by omega) (by omega)) | (exact dv_neg (by omega) (by omega))), by rw [ht]; exact hP9, va_K.moved hW.alike hK9, hD9⟩, hS.F ht⟩) hS.2.2 dX0_peek_263
          · have c7 := fz_nle.mp c7
            have kk57408 : (57408 : Int32).toInt = 57408 := by decide
            refine lv_aload_n hx hb dX0_peek_67 rfl (lv_at hl 0 rfl) ?_
            refine va_get (D := (dC, dI)) (ci := 0) (v := .ref oM) (C := RX0) (T := TX0) (N := 6) hx hb hts (by decide +kernel) hown hK hP 0 rfl rfl 1 (by decide) (hts (.fieldLink RX0 16 "UnibusMachine$Bus" "map" "LUnibusMachine$PageMap;") (by decide +kernel)) (fun _ h9 => h9) rfl dX0_peek_68 ?_
            refine va_get (D := (dC, dI)) (ci := 3) (v := .ref ab) (C := RX4) (T := TX4) (N := 3) hx hb hts (by decide +kernel) hown hK hP 1 rfl rfl 1 (by decide) (hts (.fieldLink RX0 54 "UnibusMachine$PageMap" "bases" "[I") (by decide +kernel)) (fun _ h9 => h9) rfl dX0_peek_71 ?_
            refine lv_iload_n hx hb dX0_peek_74 rfl (lv_at hl 1 rfl) ?_
            refine lv_ldc (v := 57376) hx hb hown (hts (.constant RX0 49 (57376)) (by decide +kernel)) dX0_peek_75 ?_
            refine lv_isub hx hb dX0_peek_77 ?_
            have f2 := fz_sub p0 57376 (by omega) (by omega)
            refine lv_iconst (v := 1) hx hb dX0_peek_78 (by decide) ?_
            refine lv_ishr hx hb dX0_peek_79 ?_
            have f3 := fz_shr1 (p0 - 57376) (by omega)
            refine va_iald (D := (dC, dI)) hx hb hK hP 3 1 rfl rfl (vp_in_iff.mpr (by constructor <;> omega)) dX0_peek_80 ?_
            have hP9 := hP.sub (ws' := []) [] rfl
            have hD9 := hD.sub (ws' := []) [] (by decide) rfl
            have hK9 := hK.sub (tys' := []) [] rfl
            exact W.iret (v := 0) hx hb hr (fun t ht hW => ⟨⟨0, (), rfl, (by first | (exact dv_pos (by omega)) | (exact dv_zero (by omega) (by omega)) | (exact dv_neg (by omega) (by omega))), by rw [ht]; exact hP9, va_K.moved hW.alike hK9, hD9⟩, hS.F ht⟩) hS.2.2 dX0_peek_81
      · have c3 := fz_nlt.mp c3
        have kk57344 : (57344 : Int32).toInt = 57344 := by decide
        refine lv_iload_n hx hb dX0_peek_34 rfl (lv_at hl 1 rfl) ?_
        refine lv_ldc (v := 57376) hx hb hown (hts (.constant RX0 49 (57376)) (by decide +kernel)) dX0_peek_35 ?_
        refine lv_icmp_ge (tgt := 55) hx hb dX0_peek_37 (by decide) (fun c10 => ?_) (fun c10 => ?_)
        · have c10 := fz_le.mp c10
          have kk57376 : (57376 : Int32).toInt = 57376 := by decide
          refine lv_iload_n hx hb dX0_peek_55 rfl (lv_at hl 1 rfl) ?_
          refine lv_ldc (v := 57376) hx hb hown (hts (.constant RX0 49 (57376)) (by decide +kernel)) dX0_peek_56 ?_
          refine lv_icmp_lt (tgt := 82) hx hb dX0_peek_58 (by decide) (fun c11 => ?_) (fun c11 => ?_)
          · have c11 := fz_lt.mp c11
            have kk57376 : (57376 : Int32).toInt = 57376 := by decide
            refine lv_iload_n hx hb dX0_peek_82 rfl (lv_at hl 1 rfl) ?_
            by_cases e57408 : p0 = 57408
            · subst e57408
              have kk57408 : (57408 : Int32).toInt = 57408 := by decide
              refine lv_lookup (off := 89) (tgt := 172) hx hb dX0_peek_83 (by decide) (by decide) (by decide) ?_
              refine lv_aload_n hx hb dX0_peek_172 rfl (lv_at hl 0 rfl) ?_
              refine va_get (D := (dC, dI)) (ci := 0) (v := .ref oM) (C := RX0) (T := TX0) (N := 6) hx hb hts (by decide +kernel) hown hK hP 0 rfl rfl 1 (by decide) (hts (.fieldLink RX0 16 "UnibusMachine$Bus" "map" "LUnibusMachine$PageMap;") (by decide +kernel)) (fun _ h9 => h9) rfl dX0_peek_173 ?_
              refine va_get (D := (dC, dI)) (ci := 3) (v := .int 0) (C := RX4) (T := TX4) (N := 3) hx hb hts (by decide +kernel) hown hK hP 1 rfl rfl 2 (by decide) (hts (.fieldLink RX0 57 "UnibusMachine$PageMap" "control" "I") (by decide +kernel)) (fun _ h9 => h9) rfl dX0_peek_176 ?_
              have hP9 := hP.sub (ws' := []) [] rfl
              have hD9 := hD.sub (ws' := []) [] (by decide) rfl
              have hK9 := hK.sub (tys' := []) [] rfl
              exact W.iret (v := 0) hx hb hr (fun t ht hW => ⟨⟨0, (), rfl, (by first | (exact dv_pos (by omega)) | (exact dv_zero (by omega) (by omega)) | (exact dv_neg (by omega) (by omega))), by rw [ht]; exact hP9, va_K.moved hW.alike hK9, hD9⟩, hS.F ht⟩) hS.2.2 dX0_peek_179
            have e57408 : p0.toInt ≠ 57408 := fun h => e57408 (fz_eq.mpr (h.trans (by decide)))
            by_cases e57424 : p0 = 57424
            · subst e57424
              have kk57424 : (57424 : Int32).toInt = 57424 := by decide
              refine lv_lookup (off := 97) (tgt := 180) hx hb dX0_peek_83 (by decide) (by decide) (by decide) ?_
              refine lv_aload_n hx hb dX0_peek_180 rfl (lv_at hl 0 rfl) ?_
              refine va_get (D := (dC, dI)) (ci := 0) (v := .ref oK) (C := RX0) (T := TX0) (N := 6) hx hb hts (by decide +kernel) hown hK hP 0 rfl rfl 3 (by decide) (hts (.fieldLink RX0 30 "UnibusMachine$Bus" "keyboard" "LUnibusMachine$Keyboard;") (by decide +kernel)) (fun _ h9 => h9) rfl dX0_peek_181 ?_
              refine va_get (D := (dC, dI)) (ci := 2) (v := .int 0) (C := RX2) (T := TX2) (N := 3) hx hb hts (by decide +kernel) hown hK hP 5 rfl rfl 0 (by decide) (hts (.fieldLink RX0 61 "UnibusMachine$Keyboard" "bits" "I") (by decide +kernel)) (u_same (hts (.sameField "UnibusMachine$Keyboard" "UnibusMachine$Line" "bits" "I") (by decide +kernel))) rfl dX0_peek_184 ?_
              have hP9 := hP.sub (ws' := []) [] rfl
              have hD9 := hD.sub (ws' := []) [] (by decide) rfl
              have hK9 := hK.sub (tys' := []) [] rfl
              exact W.iret (v := 0) hx hb hr (fun t ht hW => ⟨⟨0, (), rfl, (by first | (exact dv_pos (by omega)) | (exact dv_zero (by omega) (by omega)) | (exact dv_neg (by omega) (by omega))), by rw [ht]; exact hP9, va_K.moved hW.alike hK9, hD9⟩, hS.F ht⟩) hS.2.2 dX0_peek_187
            have e57424 : p0.toInt ≠ 57424 := fun h => e57424 (fz_eq.mpr (h.trans (by decide)))
            by_cases e57426 : p0 = 57426
            · subst e57426
              have kk57426 : (57426 : Int32).toInt = 57426 := by decide
              refine lv_lookup (off := 105) (tgt := 188) hx hb dX0_peek_83 (by decide) (by decide) (by decide) ?_
              refine lv_aload_n hx hb dX0_peek_188 rfl (lv_at hl 0 rfl) ?_
              refine va_get (D := (dC, dI)) (ci := 0) (v := .ref oK) (C := RX0) (T := TX0) (N := 6) hx hb hts (by decide +kernel) hown hK hP 0 rfl rfl 3 (by decide) (hts (.fieldLink RX0 30 "UnibusMachine$Bus" "keyboard" "LUnibusMachine$Keyboard;") (by decide +kernel)) (fun _ h9 => h9) rfl dX0_peek_189 ?_
              refine va_get (D := (dC, dI)) (ci := 2) (v := .int 0) (C := RX2) (T := TX2) (N := 3) hx hb hts (by decide +kernel) hown hK hP 5 rfl rfl 2 (by decide) (hts (.fieldLink RX0 64 "UnibusMachine$Keyboard" "character" "I") (by decide +kernel)) (fun _ h9 => h9) rfl dX0_peek_192 ?_
              have hP9 := hP.sub (ws' := []) [] rfl
              have hD9 := hD.sub (ws' := []) [] (by decide) rfl
              have hK9 := hK.sub (tys' := []) [] rfl
              exact W.iret (v := 0) hx hb hr (fun t ht hW => ⟨⟨0, (), rfl, (by first | (exact dv_pos (by omega)) | (exact dv_zero (by omega) (by omega)) | (exact dv_neg (by omega) (by omega))), by rw [ht]; exact hP9, va_K.moved hW.alike hK9, hD9⟩, hS.F ht⟩) hS.2.2 dX0_peek_195
            have e57426 : p0.toInt ≠ 57426 := fun h => e57426 (fz_eq.mpr (h.trans (by decide)))
            by_cases e57428 : p0 = 57428
            · subst e57428
              have kk57428 : (57428 : Int32).toInt = 57428 := by decide
              refine lv_lookup (off := 113) (tgt := 196) hx hb dX0_peek_83 (by decide) (by decide) (by decide) ?_
              refine lv_aload_n hx hb dX0_peek_196 rfl (lv_at hl 0 rfl) ?_
              refine va_get (D := (dC, dI)) (ci := 0) (v := .ref oL) (C := RX0) (T := TX0) (N := 6) hx hb hts (by decide +kernel) hown hK hP 0 rfl rfl 4 (by decide) (hts (.fieldLink RX0 37 "UnibusMachine$Bus" "printer" "LUnibusMachine$Printer;") (by decide +kernel)) (fun _ h9 => h9) rfl dX0_peek_197 ?_
              refine va_get (D := (dC, dI)) (ci := 4) (v := .int 128) (C := RX5) (T := TX5) (N := 7) hx hb hts (by decide +kernel) hown hK hP 6 rfl rfl 0 (by decide) (hts (.fieldLink RX0 67 "UnibusMachine$Printer" "bits" "I") (by decide +kernel)) (u_same (hts (.sameField "UnibusMachine$Printer" "UnibusMachine$Line" "bits" "I") (by decide +kernel))) rfl dX0_peek_200 ?_
              have hP9 := hP.sub (ws' := []) [] rfl
              have hD9 := hD.sub (ws' := []) [] (by decide) rfl
              have hK9 := hK.sub (tys' := []) [] rfl
              exact W.iret (v := 128) hx hb hr (fun t ht hW => ⟨⟨128, (), rfl, (by first | (exact dv_pos (by omega)) | (exact dv_zero (by omega) (by omega)) | (exact dv_neg (by omega) (by omega))), by rw [ht]; exact hP9, va_K.moved hW.alike hK9, hD9⟩, hS.F ht⟩) hS.2.2 dX0_peek_203
            have e57428 : p0.toInt ≠ 57428 := fun h => e57428 (fz_eq.mpr (h.trans (by decide)))
            by_cases e57430 : p0 = 57430
            · subst e57430
              have kk57430 : (57430 : Int32).toInt = 57430 := by decide
              refine lv_lookup (off := 121) (tgt := 204) hx hb dX0_peek_83 (by decide) (by decide) (by decide) ?_
              refine lv_iconst (v := 0) hx hb dX0_peek_204 (by decide) ?_
              have hP9 := hP.sub (ws' := []) [] rfl
              have hD9 := hD.sub (ws' := []) [] (by decide) rfl
              have hK9 := hK.sub (tys' := []) [] rfl
              exact W.iret (v := 0) hx hb hr (fun t ht hW => ⟨⟨0, (), rfl, (by first | (exact dv_pos (by omega)) | (exact dv_zero (by omega) (by omega)) | (exact dv_neg (by omega) (by omega))), by rw [ht]; exact hP9, va_K.moved hW.alike hK9, hD9⟩, hS.F ht⟩) hS.2.2 dX0_peek_205
            have e57430 : p0.toInt ≠ 57430 := fun h => e57430 (fz_eq.mpr (h.trans (by decide)))
            by_cases e57440 : p0 = 57440
            · subst e57440
              have kk57440 : (57440 : Int32).toInt = 57440 := by decide
              refine lv_lookup (off := 123) (tgt := 206) hx hb dX0_peek_83 (by decide) (by decide) (by decide) ?_
              refine lv_aload_n hx hb dX0_peek_206 rfl (lv_at hl 0 rfl) ?_
              refine va_get (D := (dC, dI)) (ci := 0) (v := .ref oD) (C := RX0) (T := TX0) (N := 6) hx hb hts (by decide +kernel) hown hK hP 0 rfl rfl 5 (by decide) (hts (.fieldLink RX0 44 "UnibusMachine$Bus" "drive" "LUnibusMachine$Drive;") (by decide +kernel)) (fun _ h9 => h9) rfl dX0_peek_207 ?_
              refine va_get (D := (dC, dI)) (ci := 1) (v := .int 128) (C := RX1) (T := TX1) (N := 10) hx hb hts (by decide +kernel) hown hK hP 7 rfl rfl 0 (by decide) (hts (.fieldLink RX0 68 "UnibusMachine$Drive" "bits" "I") (by decide +kernel)) (u_same (hts (.sameField "UnibusMachine$Drive" "UnibusMachine$Line" "bits" "I") (by decide +kernel))) rfl dX0_peek_210 ?_
              refine lv_aload_n hx hb dX0_peek_213 rfl (lv_at hl 0 rfl) ?_
              refine va_get (D := (dC, dI)) (ci := 0) (v := .ref oD) (C := RX0) (T := TX0) (N := 6) hx hb hts (by decide +kernel) hown hK hP 0 rfl rfl 5 (by decide) (hts (.fieldLink RX0 44 "UnibusMachine$Bus" "drive" "LUnibusMachine$Drive;") (by decide +kernel)) (fun _ h9 => h9) rfl dX0_peek_214 ?_
              refine va_get (D := (dC, dI)) (ci := 1) (v := .int 0) (C := RX1) (T := TX1) (N := 10) hx hb hts (by decide +kernel) hown hK hP 7 rfl rfl 3 (by decide) (hts (.fieldLink RX0 69 "UnibusMachine$Drive" "writing" "I") (by decide +kernel)) (fun _ h9 => h9) rfl dX0_peek_217 ?_
              refine lv_ior hx hb dX0_peek_220 ?_
              refine lv_topi (fun y12 ey12 => ?_)
              obtain rfl : y12 = 128 := by rw [ey12]; decide
              refine lv_aload_n hx hb dX0_peek_221 rfl (lv_at hl 0 rfl) ?_
              refine va_get (D := (dC, dI)) (ci := 0) (v := .ref oD) (C := RX0) (T := TX0) (N := 6) hx hb hts (by decide +kernel) hown hK hP 0 rfl rfl 5 (by decide) (hts (.fieldLink RX0 44 "UnibusMachine$Bus" "drive" "LUnibusMachine$Drive;") (by decide +kernel)) (fun _ h9 => h9) rfl dX0_peek_222 ?_
              refine va_get (D := (dC, dI)) (ci := 1) (v := .int 0) (C := RX1) (T := TX1) (N := 10) hx hb hts (by decide +kernel) hown hK hP 7 rfl rfl 4 (by decide) (hts (.fieldLink RX0 72 "UnibusMachine$Drive" "wrong" "I") (by decide +kernel)) (fun _ h9 => h9) rfl dX0_peek_225 ?_
              refine lv_ior hx hb dX0_peek_228 ?_
              refine lv_topi (fun y13 ey13 => ?_)
              obtain rfl : y13 = 128 := by rw [ey13]; decide
              have hP9 := hP.sub (ws' := []) [] rfl
              have hD9 := hD.sub (ws' := []) [] (by decide) rfl
              have hK9 := hK.sub (tys' := []) [] rfl
              exact W.iret (v := 128) hx hb hr (fun t ht hW => ⟨⟨128, (), rfl, (by first | (exact dv_pos (by omega)) | (exact dv_zero (by omega) (by omega)) | (exact dv_neg (by omega) (by omega))), by rw [ht]; exact hP9, va_K.moved hW.alike hK9, hD9⟩, hS.F ht⟩) hS.2.2 dX0_peek_229
            have e57440 : p0.toInt ≠ 57440 := fun h => e57440 (fz_eq.mpr (h.trans (by decide)))
            by_cases e57442 : p0 = 57442
            · subst e57442
              have kk57442 : (57442 : Int32).toInt = 57442 := by decide
              refine lv_lookup (off := 147) (tgt := 230) hx hb dX0_peek_83 (by decide) (by decide) (by decide) ?_
              refine lv_aload_n hx hb dX0_peek_230 rfl (lv_at hl 0 rfl) ?_
              refine va_get (D := (dC, dI)) (ci := 0) (v := .ref oD) (C := RX0) (T := TX0) (N := 6) hx hb hts (by decide +kernel) hown hK hP 0 rfl rfl 5 (by decide) (hts (.fieldLink RX0 44 "UnibusMachine$Bus" "drive" "LUnibusMachine$Drive;") (by decide +kernel)) (fun _ h9 => h9) rfl dX0_peek_231 ?_
              refine va_get (D := (dC, dI)) (ci := 1) (v := .int 0) (C := RX1) (T := TX1) (N := 10) hx hb hts (by decide +kernel) hown hK hP 7 rfl rfl 5 (by decide) (hts (.fieldLink RX0 75 "UnibusMachine$Drive" "count" "I") (by decide +kernel)) (fun _ h9 => h9) rfl dX0_peek_234 ?_
              have hP9 := hP.sub (ws' := []) [] rfl
              have hD9 := hD.sub (ws' := []) [] (by decide) rfl
              have hK9 := hK.sub (tys' := []) [] rfl
              exact W.iret (v := 0) hx hb hr (fun t ht hW => ⟨⟨0, (), rfl, (by first | (exact dv_pos (by omega)) | (exact dv_zero (by omega) (by omega)) | (exact dv_neg (by omega) (by omega))), by rw [ht]; exact hP9, va_K.moved hW.alike hK9, hD9⟩, hS.F ht⟩) hS.2.2 dX0_peek_237
            have e57442 : p0.toInt ≠ 57442 := fun h => e57442 (fz_eq.mpr (h.trans (by decide)))
            by_cases e57444 : p0 = 57444
            · subst e57444
              have kk57444 : (57444 : Int32).toInt = 57444 := by decide
              refine lv_lookup (off := 155) (tgt := 238) hx hb dX0_peek_83 (by decide) (by decide) (by decide) ?_
              refine lv_aload_n hx hb dX0_peek_238 rfl (lv_at hl 0 rfl) ?_
              refine va_get (D := (dC, dI)) (ci := 0) (v := .ref oD) (C := RX0) (T := TX0) (N := 6) hx hb hts (by decide +kernel) hown hK hP 0 rfl rfl 5 (by decide) (hts (.fieldLink RX0 44 "UnibusMachine$Bus" "drive" "LUnibusMachine$Drive;") (by decide +kernel)) (fun _ h9 => h9) rfl dX0_peek_239 ?_
              refine va_get (D := (dC, dI)) (ci := 1) (v := .int 0) (C := RX1) (T := TX1) (N := 10) hx hb hts (by decide +kernel) hown hK hP 7 rfl rfl 6 (by decide) (hts (.fieldLink RX0 78 "UnibusMachine$Drive" "address" "I") (by decide +kernel)) (fun _ h9 => h9) rfl dX0_peek_242 ?_
              have hP9 := hP.sub (ws' := []) [] rfl
              have hD9 := hD.sub (ws' := []) [] (by decide) rfl
              have hK9 := hK.sub (tys' := []) [] rfl
              exact W.iret (v := 0) hx hb hr (fun t ht hW => ⟨⟨0, (), rfl, (by first | (exact dv_pos (by omega)) | (exact dv_zero (by omega) (by omega)) | (exact dv_neg (by omega) (by omega))), by rw [ht]; exact hP9, va_K.moved hW.alike hK9, hD9⟩, hS.F ht⟩) hS.2.2 dX0_peek_245
            have e57444 : p0.toInt ≠ 57444 := fun h => e57444 (fz_eq.mpr (h.trans (by decide)))
            by_cases e57446 : p0 = 57446
            · subst e57446
              have kk57446 : (57446 : Int32).toInt = 57446 := by decide
              refine lv_lookup (off := 163) (tgt := 246) hx hb dX0_peek_83 (by decide) (by decide) (by decide) ?_
              refine lv_aload_n hx hb dX0_peek_246 rfl (lv_at hl 0 rfl) ?_
              refine va_get (D := (dC, dI)) (ci := 0) (v := .ref oD) (C := RX0) (T := TX0) (N := 6) hx hb hts (by decide +kernel) hown hK hP 0 rfl rfl 5 (by decide) (hts (.fieldLink RX0 44 "UnibusMachine$Bus" "drive" "LUnibusMachine$Drive;") (by decide +kernel)) (fun _ h9 => h9) rfl dX0_peek_247 ?_
              refine va_get (D := (dC, dI)) (ci := 1) (v := .int 0) (C := RX1) (T := TX1) (N := 10) hx hb hts (by decide +kernel) hown hK hP 7 rfl rfl 7 (by decide) (hts (.fieldLink RX0 81 "UnibusMachine$Drive" "sector" "I") (by decide +kernel)) (fun _ h9 => h9) rfl dX0_peek_250 ?_
              have hP9 := hP.sub (ws' := []) [] rfl
              have hD9 := hD.sub (ws' := []) [] (by decide) rfl
              have hK9 := hK.sub (tys' := []) [] rfl
              exact W.iret (v := 0) hx hb hr (fun t ht hW => ⟨⟨0, (), rfl, (by first | (exact dv_pos (by omega)) | (exact dv_zero (by omega) (by omega)) | (exact dv_neg (by omega) (by omega))), by rw [ht]; exact hP9, va_K.moved hW.alike hK9, hD9⟩, hS.F ht⟩) hS.2.2 dX0_peek_253
            have e57446 : p0.toInt ≠ 57446 := fun h => e57446 (fz_eq.mpr (h.trans (by decide)))
            by_cases e57470 : p0 = 57470
            · subst e57470
              have kk57470 : (57470 : Int32).toInt = 57470 := by decide
              refine lv_lookup (off := 171) (tgt := 254) hx hb dX0_peek_83 (by decide) (by decide) (by decide) ?_
              refine lv_aload_n hx hb dX0_peek_254 rfl (lv_at hl 0 rfl) ?_
              refine va_get (D := (dC, dI)) (ci := 0) (v := .ref oS) (C := RX0) (T := TX0) (N := 6) hx hb hts (by decide +kernel) hown hK hP 0 rfl rfl 2 (by decide) (hts (.fieldLink RX0 23 "UnibusMachine$Bus" "status" "LUnibusMachine$Status;") (by decide +kernel)) (fun _ h9 => h9) rfl dX0_peek_255 ?_
              refine va_get (D := (dC, dI)) (ci := 6) (v := .int 0) (C := RX7) (T := TX7) (N := 2) hx hb hts (by decide +kernel) hown hK hP 4 rfl rfl 0 (by decide) (hts (.fieldLink RX0 84 "UnibusMachine$Status" "now" "I") (by decide +kernel)) (fun _ h9 => h9) rfl dX0_peek_258 ?_
              have hP9 := hP.sub (ws' := []) [] rfl
              have hD9 := hD.sub (ws' := []) [] (by decide) rfl
              have hK9 := hK.sub (tys' := []) [] rfl
              exact W.iret (v := 0) hx hb hr (fun t ht hW => ⟨⟨0, (), rfl, (by first | (exact dv_pos (by omega)) | (exact dv_zero (by omega) (by omega)) | (exact dv_neg (by omega) (by omega))), by rw [ht]; exact hP9, va_K.moved hW.alike hK9, hD9⟩, hS.F ht⟩) hS.2.2 dX0_peek_261
            have e57470 : p0.toInt ≠ 57470 := fun h => e57470 (fz_eq.mpr (h.trans (by decide)))
            refine lv_lookup (off := 179) (tgt := 262) hx hb dX0_peek_83 (by decide) (by simp [Op.lookupswitch.offset, Ne.symm e57408, e57408, Ne.symm e57424, e57424, Ne.symm e57426, e57426, Ne.symm e57428, e57428, Ne.symm e57430, e57430, Ne.symm e57440, e57440, Ne.symm e57442, e57442, Ne.symm e57444, e57444, Ne.symm e57446, e57446, Ne.symm e57470, e57470]) (by decide) ?_
            refine lv_iconst (v := (-1)) hx hb dX0_peek_262 (by decide) ?_
            have hP9 := hP.sub (ws' := []) [] rfl
            have hD9 := hD.sub (ws' := []) [] (by decide) rfl
            have hK9 := hK.sub (tys' := []) [] rfl
            exact W.iret (v := (-1)) hx hb hr (fun t ht hW => ⟨⟨(-1), (), rfl, (by first | (exact dv_pos (by omega)) | (exact dv_zero (by omega) (by omega)) | (exact dv_neg (by omega) (by omega))), by rw [ht]; exact hP9, va_K.moved hW.alike hK9, hD9⟩, hS.F ht⟩) hS.2.2 dX0_peek_263
          · have c11 := fz_nlt.mp c11
            have kk57376 : (57376 : Int32).toInt = 57376 := by decide
            refine lv_iload_n hx hb dX0_peek_61 rfl (lv_at hl 1 rfl) ?_
            refine lv_ldc (v := 57408) hx hb hown (hts (.constant RX0 53 (57408)) (by decide +kernel)) dX0_peek_62 ?_
            refine lv_icmp_ge (tgt := 82) hx hb dX0_peek_64 (by decide) (fun c14 => ?_) (fun c14 => ?_)
            · have c14 := fz_le.mp c14
              have kk57408 : (57408 : Int32).toInt = 57408 := by decide
              refine lv_iload_n hx hb dX0_peek_82 rfl (lv_at hl 1 rfl) ?_
              by_cases e57408 : p0 = 57408
              · subst e57408
                have kk57408 : (57408 : Int32).toInt = 57408 := by decide
                refine lv_lookup (off := 89) (tgt := 172) hx hb dX0_peek_83 (by decide) (by decide) (by decide) ?_
                refine lv_aload_n hx hb dX0_peek_172 rfl (lv_at hl 0 rfl) ?_
                refine va_get (D := (dC, dI)) (ci := 0) (v := .ref oM) (C := RX0) (T := TX0) (N := 6) hx hb hts (by decide +kernel) hown hK hP 0 rfl rfl 1 (by decide) (hts (.fieldLink RX0 16 "UnibusMachine$Bus" "map" "LUnibusMachine$PageMap;") (by decide +kernel)) (fun _ h9 => h9) rfl dX0_peek_173 ?_
                refine va_get (D := (dC, dI)) (ci := 3) (v := .int 0) (C := RX4) (T := TX4) (N := 3) hx hb hts (by decide +kernel) hown hK hP 1 rfl rfl 2 (by decide) (hts (.fieldLink RX0 57 "UnibusMachine$PageMap" "control" "I") (by decide +kernel)) (fun _ h9 => h9) rfl dX0_peek_176 ?_
                have hP9 := hP.sub (ws' := []) [] rfl
                have hD9 := hD.sub (ws' := []) [] (by decide) rfl
                have hK9 := hK.sub (tys' := []) [] rfl
                exact W.iret (v := 0) hx hb hr (fun t ht hW => ⟨⟨0, (), rfl, (by first | (exact dv_pos (by omega)) | (exact dv_zero (by omega) (by omega)) | (exact dv_neg (by omega) (by omega))), by rw [ht]; exact hP9, va_K.moved hW.alike hK9, hD9⟩, hS.F ht⟩) hS.2.2 dX0_peek_179
              have e57408 : p0.toInt ≠ 57408 := fun h => e57408 (fz_eq.mpr (h.trans (by decide)))
              by_cases e57424 : p0 = 57424
              · subst e57424
                have kk57424 : (57424 : Int32).toInt = 57424 := by decide
                refine lv_lookup (off := 97) (tgt := 180) hx hb dX0_peek_83 (by decide) (by decide) (by decide) ?_
                refine lv_aload_n hx hb dX0_peek_180 rfl (lv_at hl 0 rfl) ?_
                refine va_get (D := (dC, dI)) (ci := 0) (v := .ref oK) (C := RX0) (T := TX0) (N := 6) hx hb hts (by decide +kernel) hown hK hP 0 rfl rfl 3 (by decide) (hts (.fieldLink RX0 30 "UnibusMachine$Bus" "keyboard" "LUnibusMachine$Keyboard;") (by decide +kernel)) (fun _ h9 => h9) rfl dX0_peek_181 ?_
                refine va_get (D := (dC, dI)) (ci := 2) (v := .int 0) (C := RX2) (T := TX2) (N := 3) hx hb hts (by decide +kernel) hown hK hP 5 rfl rfl 0 (by decide) (hts (.fieldLink RX0 61 "UnibusMachine$Keyboard" "bits" "I") (by decide +kernel)) (u_same (hts (.sameField "UnibusMachine$Keyboard" "UnibusMachine$Line" "bits" "I") (by decide +kernel))) rfl dX0_peek_184 ?_
                have hP9 := hP.sub (ws' := []) [] rfl
                have hD9 := hD.sub (ws' := []) [] (by decide) rfl
                have hK9 := hK.sub (tys' := []) [] rfl
                exact W.iret (v := 0) hx hb hr (fun t ht hW => ⟨⟨0, (), rfl, (by first | (exact dv_pos (by omega)) | (exact dv_zero (by omega) (by omega)) | (exact dv_neg (by omega) (by omega))), by rw [ht]; exact hP9, va_K.moved hW.alike hK9, hD9⟩, hS.F ht⟩) hS.2.2 dX0_peek_187
              have e57424 : p0.toInt ≠ 57424 := fun h => e57424 (fz_eq.mpr (h.trans (by decide)))
              by_cases e57426 : p0 = 57426
              · subst e57426
                have kk57426 : (57426 : Int32).toInt = 57426 := by decide
                refine lv_lookup (off := 105) (tgt := 188) hx hb dX0_peek_83 (by decide) (by decide) (by decide) ?_
                refine lv_aload_n hx hb dX0_peek_188 rfl (lv_at hl 0 rfl) ?_
                refine va_get (D := (dC, dI)) (ci := 0) (v := .ref oK) (C := RX0) (T := TX0) (N := 6) hx hb hts (by decide +kernel) hown hK hP 0 rfl rfl 3 (by decide) (hts (.fieldLink RX0 30 "UnibusMachine$Bus" "keyboard" "LUnibusMachine$Keyboard;") (by decide +kernel)) (fun _ h9 => h9) rfl dX0_peek_189 ?_
                refine va_get (D := (dC, dI)) (ci := 2) (v := .int 0) (C := RX2) (T := TX2) (N := 3) hx hb hts (by decide +kernel) hown hK hP 5 rfl rfl 2 (by decide) (hts (.fieldLink RX0 64 "UnibusMachine$Keyboard" "character" "I") (by decide +kernel)) (fun _ h9 => h9) rfl dX0_peek_192 ?_
                have hP9 := hP.sub (ws' := []) [] rfl
                have hD9 := hD.sub (ws' := []) [] (by decide) rfl
                have hK9 := hK.sub (tys' := []) [] rfl
                exact W.iret (v := 0) hx hb hr (fun t ht hW => ⟨⟨0, (), rfl, (by first | (exact dv_pos (by omega)) | (exact dv_zero (by omega) (by omega)) | (exact dv_neg (by omega) (by omega))), by rw [ht]; exact hP9, va_K.moved hW.alike hK9, hD9⟩, hS.F ht⟩) hS.2.2 dX0_peek_195
              have e57426 : p0.toInt ≠ 57426 := fun h => e57426 (fz_eq.mpr (h.trans (by decide)))
              by_cases e57428 : p0 = 57428
              · subst e57428
                have kk57428 : (57428 : Int32).toInt = 57428 := by decide
                refine lv_lookup (off := 113) (tgt := 196) hx hb dX0_peek_83 (by decide) (by decide) (by decide) ?_
                refine lv_aload_n hx hb dX0_peek_196 rfl (lv_at hl 0 rfl) ?_
                refine va_get (D := (dC, dI)) (ci := 0) (v := .ref oL) (C := RX0) (T := TX0) (N := 6) hx hb hts (by decide +kernel) hown hK hP 0 rfl rfl 4 (by decide) (hts (.fieldLink RX0 37 "UnibusMachine$Bus" "printer" "LUnibusMachine$Printer;") (by decide +kernel)) (fun _ h9 => h9) rfl dX0_peek_197 ?_
                refine va_get (D := (dC, dI)) (ci := 4) (v := .int 128) (C := RX5) (T := TX5) (N := 7) hx hb hts (by decide +kernel) hown hK hP 6 rfl rfl 0 (by decide) (hts (.fieldLink RX0 67 "UnibusMachine$Printer" "bits" "I") (by decide +kernel)) (u_same (hts (.sameField "UnibusMachine$Printer" "UnibusMachine$Line" "bits" "I") (by decide +kernel))) rfl dX0_peek_200 ?_
                have hP9 := hP.sub (ws' := []) [] rfl
                have hD9 := hD.sub (ws' := []) [] (by decide) rfl
                have hK9 := hK.sub (tys' := []) [] rfl
                exact W.iret (v := 128) hx hb hr (fun t ht hW => ⟨⟨128, (), rfl, (by first | (exact dv_pos (by omega)) | (exact dv_zero (by omega) (by omega)) | (exact dv_neg (by omega) (by omega))), by rw [ht]; exact hP9, va_K.moved hW.alike hK9, hD9⟩, hS.F ht⟩) hS.2.2 dX0_peek_203
              have e57428 : p0.toInt ≠ 57428 := fun h => e57428 (fz_eq.mpr (h.trans (by decide)))
              by_cases e57430 : p0 = 57430
              · subst e57430
                have kk57430 : (57430 : Int32).toInt = 57430 := by decide
                refine lv_lookup (off := 121) (tgt := 204) hx hb dX0_peek_83 (by decide) (by decide) (by decide) ?_
                refine lv_iconst (v := 0) hx hb dX0_peek_204 (by decide) ?_
                have hP9 := hP.sub (ws' := []) [] rfl
                have hD9 := hD.sub (ws' := []) [] (by decide) rfl
                have hK9 := hK.sub (tys' := []) [] rfl
                exact W.iret (v := 0) hx hb hr (fun t ht hW => ⟨⟨0, (), rfl, (by first | (exact dv_pos (by omega)) | (exact dv_zero (by omega) (by omega)) | (exact dv_neg (by omega) (by omega))), by rw [ht]; exact hP9, va_K.moved hW.alike hK9, hD9⟩, hS.F ht⟩) hS.2.2 dX0_peek_205
              have e57430 : p0.toInt ≠ 57430 := fun h => e57430 (fz_eq.mpr (h.trans (by decide)))
              by_cases e57440 : p0 = 57440
              · subst e57440
                have kk57440 : (57440 : Int32).toInt = 57440 := by decide
                refine lv_lookup (off := 123) (tgt := 206) hx hb dX0_peek_83 (by decide) (by decide) (by decide) ?_
                refine lv_aload_n hx hb dX0_peek_206 rfl (lv_at hl 0 rfl) ?_
                refine va_get (D := (dC, dI)) (ci := 0) (v := .ref oD) (C := RX0) (T := TX0) (N := 6) hx hb hts (by decide +kernel) hown hK hP 0 rfl rfl 5 (by decide) (hts (.fieldLink RX0 44 "UnibusMachine$Bus" "drive" "LUnibusMachine$Drive;") (by decide +kernel)) (fun _ h9 => h9) rfl dX0_peek_207 ?_
                refine va_get (D := (dC, dI)) (ci := 1) (v := .int 128) (C := RX1) (T := TX1) (N := 10) hx hb hts (by decide +kernel) hown hK hP 7 rfl rfl 0 (by decide) (hts (.fieldLink RX0 68 "UnibusMachine$Drive" "bits" "I") (by decide +kernel)) (u_same (hts (.sameField "UnibusMachine$Drive" "UnibusMachine$Line" "bits" "I") (by decide +kernel))) rfl dX0_peek_210 ?_
                refine lv_aload_n hx hb dX0_peek_213 rfl (lv_at hl 0 rfl) ?_
                refine va_get (D := (dC, dI)) (ci := 0) (v := .ref oD) (C := RX0) (T := TX0) (N := 6) hx hb hts (by decide +kernel) hown hK hP 0 rfl rfl 5 (by decide) (hts (.fieldLink RX0 44 "UnibusMachine$Bus" "drive" "LUnibusMachine$Drive;") (by decide +kernel)) (fun _ h9 => h9) rfl dX0_peek_214 ?_
                refine va_get (D := (dC, dI)) (ci := 1) (v := .int 0) (C := RX1) (T := TX1) (N := 10) hx hb hts (by decide +kernel) hown hK hP 7 rfl rfl 3 (by decide) (hts (.fieldLink RX0 69 "UnibusMachine$Drive" "writing" "I") (by decide +kernel)) (fun _ h9 => h9) rfl dX0_peek_217 ?_
                refine lv_ior hx hb dX0_peek_220 ?_
                refine lv_topi (fun y15 ey15 => ?_)
                obtain rfl : y15 = 128 := by rw [ey15]; decide
                refine lv_aload_n hx hb dX0_peek_221 rfl (lv_at hl 0 rfl) ?_
                refine va_get (D := (dC, dI)) (ci := 0) (v := .ref oD) (C := RX0) (T := TX0) (N := 6) hx hb hts (by decide +kernel) hown hK hP 0 rfl rfl 5 (by decide) (hts (.fieldLink RX0 44 "UnibusMachine$Bus" "drive" "LUnibusMachine$Drive;") (by decide +kernel)) (fun _ h9 => h9) rfl dX0_peek_222 ?_
                refine va_get (D := (dC, dI)) (ci := 1) (v := .int 0) (C := RX1) (T := TX1) (N := 10) hx hb hts (by decide +kernel) hown hK hP 7 rfl rfl 4 (by decide) (hts (.fieldLink RX0 72 "UnibusMachine$Drive" "wrong" "I") (by decide +kernel)) (fun _ h9 => h9) rfl dX0_peek_225 ?_
                refine lv_ior hx hb dX0_peek_228 ?_
                refine lv_topi (fun y16 ey16 => ?_)
                obtain rfl : y16 = 128 := by rw [ey16]; decide
                have hP9 := hP.sub (ws' := []) [] rfl
                have hD9 := hD.sub (ws' := []) [] (by decide) rfl
                have hK9 := hK.sub (tys' := []) [] rfl
                exact W.iret (v := 128) hx hb hr (fun t ht hW => ⟨⟨128, (), rfl, (by first | (exact dv_pos (by omega)) | (exact dv_zero (by omega) (by omega)) | (exact dv_neg (by omega) (by omega))), by rw [ht]; exact hP9, va_K.moved hW.alike hK9, hD9⟩, hS.F ht⟩) hS.2.2 dX0_peek_229
              have e57440 : p0.toInt ≠ 57440 := fun h => e57440 (fz_eq.mpr (h.trans (by decide)))
              by_cases e57442 : p0 = 57442
              · subst e57442
                have kk57442 : (57442 : Int32).toInt = 57442 := by decide
                refine lv_lookup (off := 147) (tgt := 230) hx hb dX0_peek_83 (by decide) (by decide) (by decide) ?_
                refine lv_aload_n hx hb dX0_peek_230 rfl (lv_at hl 0 rfl) ?_
                refine va_get (D := (dC, dI)) (ci := 0) (v := .ref oD) (C := RX0) (T := TX0) (N := 6) hx hb hts (by decide +kernel) hown hK hP 0 rfl rfl 5 (by decide) (hts (.fieldLink RX0 44 "UnibusMachine$Bus" "drive" "LUnibusMachine$Drive;") (by decide +kernel)) (fun _ h9 => h9) rfl dX0_peek_231 ?_
                refine va_get (D := (dC, dI)) (ci := 1) (v := .int 0) (C := RX1) (T := TX1) (N := 10) hx hb hts (by decide +kernel) hown hK hP 7 rfl rfl 5 (by decide) (hts (.fieldLink RX0 75 "UnibusMachine$Drive" "count" "I") (by decide +kernel)) (fun _ h9 => h9) rfl dX0_peek_234 ?_
                have hP9 := hP.sub (ws' := []) [] rfl
                have hD9 := hD.sub (ws' := []) [] (by decide) rfl
                have hK9 := hK.sub (tys' := []) [] rfl
                exact W.iret (v := 0) hx hb hr (fun t ht hW => ⟨⟨0, (), rfl, (by first | (exact dv_pos (by omega)) | (exact dv_zero (by omega) (by omega)) | (exact dv_neg (by omega) (by omega))), by rw [ht]; exact hP9, va_K.moved hW.alike hK9, hD9⟩, hS.F ht⟩) hS.2.2 dX0_peek_237
              have e57442 : p0.toInt ≠ 57442 := fun h => e57442 (fz_eq.mpr (h.trans (by decide)))
              by_cases e57444 : p0 = 57444
              · subst e57444
                have kk57444 : (57444 : Int32).toInt = 57444 := by decide
                refine lv_lookup (off := 155) (tgt := 238) hx hb dX0_peek_83 (by decide) (by decide) (by decide) ?_
                refine lv_aload_n hx hb dX0_peek_238 rfl (lv_at hl 0 rfl) ?_
                refine va_get (D := (dC, dI)) (ci := 0) (v := .ref oD) (C := RX0) (T := TX0) (N := 6) hx hb hts (by decide +kernel) hown hK hP 0 rfl rfl 5 (by decide) (hts (.fieldLink RX0 44 "UnibusMachine$Bus" "drive" "LUnibusMachine$Drive;") (by decide +kernel)) (fun _ h9 => h9) rfl dX0_peek_239 ?_
                refine va_get (D := (dC, dI)) (ci := 1) (v := .int 0) (C := RX1) (T := TX1) (N := 10) hx hb hts (by decide +kernel) hown hK hP 7 rfl rfl 6 (by decide) (hts (.fieldLink RX0 78 "UnibusMachine$Drive" "address" "I") (by decide +kernel)) (fun _ h9 => h9) rfl dX0_peek_242 ?_
                have hP9 := hP.sub (ws' := []) [] rfl
                have hD9 := hD.sub (ws' := []) [] (by decide) rfl
                have hK9 := hK.sub (tys' := []) [] rfl
                exact W.iret (v := 0) hx hb hr (fun t ht hW => ⟨⟨0, (), rfl, (by first | (exact dv_pos (by omega)) | (exact dv_zero (by omega) (by omega)) | (exact dv_neg (by omega) (by omega))), by rw [ht]; exact hP9, va_K.moved hW.alike hK9, hD9⟩, hS.F ht⟩) hS.2.2 dX0_peek_245
              have e57444 : p0.toInt ≠ 57444 := fun h => e57444 (fz_eq.mpr (h.trans (by decide)))
              by_cases e57446 : p0 = 57446
              · subst e57446
                have kk57446 : (57446 : Int32).toInt = 57446 := by decide
                refine lv_lookup (off := 163) (tgt := 246) hx hb dX0_peek_83 (by decide) (by decide) (by decide) ?_
                refine lv_aload_n hx hb dX0_peek_246 rfl (lv_at hl 0 rfl) ?_
                refine va_get (D := (dC, dI)) (ci := 0) (v := .ref oD) (C := RX0) (T := TX0) (N := 6) hx hb hts (by decide +kernel) hown hK hP 0 rfl rfl 5 (by decide) (hts (.fieldLink RX0 44 "UnibusMachine$Bus" "drive" "LUnibusMachine$Drive;") (by decide +kernel)) (fun _ h9 => h9) rfl dX0_peek_247 ?_
                refine va_get (D := (dC, dI)) (ci := 1) (v := .int 0) (C := RX1) (T := TX1) (N := 10) hx hb hts (by decide +kernel) hown hK hP 7 rfl rfl 7 (by decide) (hts (.fieldLink RX0 81 "UnibusMachine$Drive" "sector" "I") (by decide +kernel)) (fun _ h9 => h9) rfl dX0_peek_250 ?_
                have hP9 := hP.sub (ws' := []) [] rfl
                have hD9 := hD.sub (ws' := []) [] (by decide) rfl
                have hK9 := hK.sub (tys' := []) [] rfl
                exact W.iret (v := 0) hx hb hr (fun t ht hW => ⟨⟨0, (), rfl, (by first | (exact dv_pos (by omega)) | (exact dv_zero (by omega) (by omega)) | (exact dv_neg (by omega) (by omega))), by rw [ht]; exact hP9, va_K.moved hW.alike hK9, hD9⟩, hS.F ht⟩) hS.2.2 dX0_peek_253
              have e57446 : p0.toInt ≠ 57446 := fun h => e57446 (fz_eq.mpr (h.trans (by decide)))
              by_cases e57470 : p0 = 57470
              · subst e57470
                have kk57470 : (57470 : Int32).toInt = 57470 := by decide
                refine lv_lookup (off := 171) (tgt := 254) hx hb dX0_peek_83 (by decide) (by decide) (by decide) ?_
                refine lv_aload_n hx hb dX0_peek_254 rfl (lv_at hl 0 rfl) ?_
                refine va_get (D := (dC, dI)) (ci := 0) (v := .ref oS) (C := RX0) (T := TX0) (N := 6) hx hb hts (by decide +kernel) hown hK hP 0 rfl rfl 2 (by decide) (hts (.fieldLink RX0 23 "UnibusMachine$Bus" "status" "LUnibusMachine$Status;") (by decide +kernel)) (fun _ h9 => h9) rfl dX0_peek_255 ?_
                refine va_get (D := (dC, dI)) (ci := 6) (v := .int 0) (C := RX7) (T := TX7) (N := 2) hx hb hts (by decide +kernel) hown hK hP 4 rfl rfl 0 (by decide) (hts (.fieldLink RX0 84 "UnibusMachine$Status" "now" "I") (by decide +kernel)) (fun _ h9 => h9) rfl dX0_peek_258 ?_
                have hP9 := hP.sub (ws' := []) [] rfl
                have hD9 := hD.sub (ws' := []) [] (by decide) rfl
                have hK9 := hK.sub (tys' := []) [] rfl
                exact W.iret (v := 0) hx hb hr (fun t ht hW => ⟨⟨0, (), rfl, (by first | (exact dv_pos (by omega)) | (exact dv_zero (by omega) (by omega)) | (exact dv_neg (by omega) (by omega))), by rw [ht]; exact hP9, va_K.moved hW.alike hK9, hD9⟩, hS.F ht⟩) hS.2.2 dX0_peek_261
              have e57470 : p0.toInt ≠ 57470 := fun h => e57470 (fz_eq.mpr (h.trans (by decide)))
              refine lv_lookup (off := 179) (tgt := 262) hx hb dX0_peek_83 (by decide) (by simp [Op.lookupswitch.offset, Ne.symm e57408, e57408, Ne.symm e57424, e57424, Ne.symm e57426, e57426, Ne.symm e57428, e57428, Ne.symm e57430, e57430, Ne.symm e57440, e57440, Ne.symm e57442, e57442, Ne.symm e57444, e57444, Ne.symm e57446, e57446, Ne.symm e57470, e57470]) (by decide) ?_
              refine lv_iconst (v := (-1)) hx hb dX0_peek_262 (by decide) ?_
              have hP9 := hP.sub (ws' := []) [] rfl
              have hD9 := hD.sub (ws' := []) [] (by decide) rfl
              have hK9 := hK.sub (tys' := []) [] rfl
              exact W.iret (v := (-1)) hx hb hr (fun t ht hW => ⟨⟨(-1), (), rfl, (by first | (exact dv_pos (by omega)) | (exact dv_zero (by omega) (by omega)) | (exact dv_neg (by omega) (by omega))), by rw [ht]; exact hP9, va_K.moved hW.alike hK9, hD9⟩, hS.F ht⟩) hS.2.2 dX0_peek_263
            · have c14 := fz_nle.mp c14
              have kk57408 : (57408 : Int32).toInt = 57408 := by decide
              refine lv_aload_n hx hb dX0_peek_67 rfl (lv_at hl 0 rfl) ?_
              refine va_get (D := (dC, dI)) (ci := 0) (v := .ref oM) (C := RX0) (T := TX0) (N := 6) hx hb hts (by decide +kernel) hown hK hP 0 rfl rfl 1 (by decide) (hts (.fieldLink RX0 16 "UnibusMachine$Bus" "map" "LUnibusMachine$PageMap;") (by decide +kernel)) (fun _ h9 => h9) rfl dX0_peek_68 ?_
              refine va_get (D := (dC, dI)) (ci := 3) (v := .ref ab) (C := RX4) (T := TX4) (N := 3) hx hb hts (by decide +kernel) hown hK hP 1 rfl rfl 1 (by decide) (hts (.fieldLink RX0 54 "UnibusMachine$PageMap" "bases" "[I") (by decide +kernel)) (fun _ h9 => h9) rfl dX0_peek_71 ?_
              refine lv_iload_n hx hb dX0_peek_74 rfl (lv_at hl 1 rfl) ?_
              refine lv_ldc (v := 57376) hx hb hown (hts (.constant RX0 49 (57376)) (by decide +kernel)) dX0_peek_75 ?_
              refine lv_isub hx hb dX0_peek_77 ?_
              have f2 := fz_sub p0 57376 (by omega) (by omega)
              refine lv_iconst (v := 1) hx hb dX0_peek_78 (by decide) ?_
              refine lv_ishr hx hb dX0_peek_79 ?_
              have f3 := fz_shr1 (p0 - 57376) (by omega)
              refine va_iald (D := (dC, dI)) hx hb hK hP 3 1 rfl rfl (vp_in_iff.mpr (by constructor <;> omega)) dX0_peek_80 ?_
              have hP9 := hP.sub (ws' := []) [] rfl
              have hD9 := hD.sub (ws' := []) [] (by decide) rfl
              have hK9 := hK.sub (tys' := []) [] rfl
              exact W.iret (v := 0) hx hb hr (fun t ht hW => ⟨⟨0, (), rfl, (by first | (exact dv_pos (by omega)) | (exact dv_zero (by omega) (by omega)) | (exact dv_neg (by omega) (by omega))), by rw [ht]; exact hP9, va_K.moved hW.alike hK9, hD9⟩, hS.F ht⟩) hS.2.2 dX0_peek_81
        · have c10 := fz_nle.mp c10
          have kk57376 : (57376 : Int32).toInt = 57376 := by decide
          refine lv_aload_n hx hb dX0_peek_40 rfl (lv_at hl 0 rfl) ?_
          refine va_get (D := (dC, dI)) (ci := 0) (v := .ref oM) (C := RX0) (T := TX0) (N := 6) hx hb hts (by decide +kernel) hown hK hP 0 rfl rfl 1 (by decide) (hts (.fieldLink RX0 16 "UnibusMachine$Bus" "map" "LUnibusMachine$PageMap;") (by decide +kernel)) (fun _ h9 => h9) rfl dX0_peek_41 ?_
          refine va_get (D := (dC, dI)) (ci := 3) (v := .ref ad) (C := RX4) (T := TX4) (N := 3) hx hb hts (by decide +kernel) hown hK hP 1 rfl rfl 0 (by decide) (hts (.fieldLink RX0 50 "UnibusMachine$PageMap" "descriptors" "[I") (by decide +kernel)) (fun _ h9 => h9) rfl dX0_peek_44 ?_
          refine lv_iload_n hx hb dX0_peek_47 rfl (lv_at hl 1 rfl) ?_
          refine lv_ldc (v := 57344) hx hb hown (hts (.constant RX0 48 (57344)) (by decide +kernel)) dX0_peek_48 ?_
          refine lv_isub hx hb dX0_peek_50 ?_
          have f2 := fz_sub p0 57344 (by omega) (by omega)
          refine lv_iconst (v := 1) hx hb dX0_peek_51 (by decide) ?_
          refine lv_ishr hx hb dX0_peek_52 ?_
          have f3 := fz_shr1 (p0 - 57344) (by omega)
          refine va_iald (D := (dC, dI)) hx hb hK hP 2 0 rfl rfl (vp_in_iff.mpr (by constructor <;> omega)) dX0_peek_53 ?_
          have hP9 := hP.sub (ws' := []) [] rfl
          have hD9 := hD.sub (ws' := []) [] (by decide) rfl
          have hK9 := hK.sub (tys' := []) [] rfl
          exact W.iret (v := 0) hx hb hr (fun t ht hW => ⟨⟨0, (), rfl, (by first | (exact dv_pos (by omega)) | (exact dv_zero (by omega) (by omega)) | (exact dv_neg (by omega) (by omega))), by rw [ht]; exact hP9, va_K.moved hW.alike hK9, hD9⟩, hS.F ht⟩) hS.2.2 dX0_peek_54
    · have c2 := fz_nlt.mp c2
      have kk0 : (0 : Int32).toInt = 0 := by decide
      refine lv_iload_n hx hb dX0_peek_12 rfl (lv_at hl 1 rfl) ?_
      refine lv_sipush (v := 1024) hx hb dX0_peek_13 (by decide) ?_
      refine lv_icmp_ge (tgt := 28) hx hb dX0_peek_16 (by decide) (fun c17 => ?_) (fun c17 => ?_)
      · have c17 := fz_le.mp c17
        have kk1024 : (1024 : Int32).toInt = 1024 := by decide
        refine lv_iload_n hx hb dX0_peek_28 rfl (lv_at hl 1 rfl) ?_
        refine lv_ldc (v := 57344) hx hb hown (hts (.constant RX0 48 (57344)) (by decide +kernel)) dX0_peek_29 ?_
        refine lv_icmp_lt (tgt := 55) hx hb dX0_peek_31 (by decide) (fun c18 => ?_) (fun c18 => ?_)
        · have c18 := fz_lt.mp c18
          have kk57344 : (57344 : Int32).toInt = 57344 := by decide
          refine lv_iload_n hx hb dX0_peek_55 rfl (lv_at hl 1 rfl) ?_
          refine lv_ldc (v := 57376) hx hb hown (hts (.constant RX0 49 (57376)) (by decide +kernel)) dX0_peek_56 ?_
          refine lv_icmp_lt (tgt := 82) hx hb dX0_peek_58 (by decide) (fun c19 => ?_) (fun c19 => ?_)
          · have c19 := fz_lt.mp c19
            have kk57376 : (57376 : Int32).toInt = 57376 := by decide
            refine lv_iload_n hx hb dX0_peek_82 rfl (lv_at hl 1 rfl) ?_
            by_cases e57408 : p0 = 57408
            · subst e57408
              have kk57408 : (57408 : Int32).toInt = 57408 := by decide
              refine lv_lookup (off := 89) (tgt := 172) hx hb dX0_peek_83 (by decide) (by decide) (by decide) ?_
              refine lv_aload_n hx hb dX0_peek_172 rfl (lv_at hl 0 rfl) ?_
              refine va_get (D := (dC, dI)) (ci := 0) (v := .ref oM) (C := RX0) (T := TX0) (N := 6) hx hb hts (by decide +kernel) hown hK hP 0 rfl rfl 1 (by decide) (hts (.fieldLink RX0 16 "UnibusMachine$Bus" "map" "LUnibusMachine$PageMap;") (by decide +kernel)) (fun _ h9 => h9) rfl dX0_peek_173 ?_
              refine va_get (D := (dC, dI)) (ci := 3) (v := .int 0) (C := RX4) (T := TX4) (N := 3) hx hb hts (by decide +kernel) hown hK hP 1 rfl rfl 2 (by decide) (hts (.fieldLink RX0 57 "UnibusMachine$PageMap" "control" "I") (by decide +kernel)) (fun _ h9 => h9) rfl dX0_peek_176 ?_
              have hP9 := hP.sub (ws' := []) [] rfl
              have hD9 := hD.sub (ws' := []) [] (by decide) rfl
              have hK9 := hK.sub (tys' := []) [] rfl
              exact W.iret (v := 0) hx hb hr (fun t ht hW => ⟨⟨0, (), rfl, (by first | (exact dv_pos (by omega)) | (exact dv_zero (by omega) (by omega)) | (exact dv_neg (by omega) (by omega))), by rw [ht]; exact hP9, va_K.moved hW.alike hK9, hD9⟩, hS.F ht⟩) hS.2.2 dX0_peek_179
            have e57408 : p0.toInt ≠ 57408 := fun h => e57408 (fz_eq.mpr (h.trans (by decide)))
            by_cases e57424 : p0 = 57424
            · subst e57424
              have kk57424 : (57424 : Int32).toInt = 57424 := by decide
              refine lv_lookup (off := 97) (tgt := 180) hx hb dX0_peek_83 (by decide) (by decide) (by decide) ?_
              refine lv_aload_n hx hb dX0_peek_180 rfl (lv_at hl 0 rfl) ?_
              refine va_get (D := (dC, dI)) (ci := 0) (v := .ref oK) (C := RX0) (T := TX0) (N := 6) hx hb hts (by decide +kernel) hown hK hP 0 rfl rfl 3 (by decide) (hts (.fieldLink RX0 30 "UnibusMachine$Bus" "keyboard" "LUnibusMachine$Keyboard;") (by decide +kernel)) (fun _ h9 => h9) rfl dX0_peek_181 ?_
              refine va_get (D := (dC, dI)) (ci := 2) (v := .int 0) (C := RX2) (T := TX2) (N := 3) hx hb hts (by decide +kernel) hown hK hP 5 rfl rfl 0 (by decide) (hts (.fieldLink RX0 61 "UnibusMachine$Keyboard" "bits" "I") (by decide +kernel)) (u_same (hts (.sameField "UnibusMachine$Keyboard" "UnibusMachine$Line" "bits" "I") (by decide +kernel))) rfl dX0_peek_184 ?_
              have hP9 := hP.sub (ws' := []) [] rfl
              have hD9 := hD.sub (ws' := []) [] (by decide) rfl
              have hK9 := hK.sub (tys' := []) [] rfl
              exact W.iret (v := 0) hx hb hr (fun t ht hW => ⟨⟨0, (), rfl, (by first | (exact dv_pos (by omega)) | (exact dv_zero (by omega) (by omega)) | (exact dv_neg (by omega) (by omega))), by rw [ht]; exact hP9, va_K.moved hW.alike hK9, hD9⟩, hS.F ht⟩) hS.2.2 dX0_peek_187
            have e57424 : p0.toInt ≠ 57424 := fun h => e57424 (fz_eq.mpr (h.trans (by decide)))
            by_cases e57426 : p0 = 57426
            · subst e57426
              have kk57426 : (57426 : Int32).toInt = 57426 := by decide
              refine lv_lookup (off := 105) (tgt := 188) hx hb dX0_peek_83 (by decide) (by decide) (by decide) ?_
              refine lv_aload_n hx hb dX0_peek_188 rfl (lv_at hl 0 rfl) ?_
              refine va_get (D := (dC, dI)) (ci := 0) (v := .ref oK) (C := RX0) (T := TX0) (N := 6) hx hb hts (by decide +kernel) hown hK hP 0 rfl rfl 3 (by decide) (hts (.fieldLink RX0 30 "UnibusMachine$Bus" "keyboard" "LUnibusMachine$Keyboard;") (by decide +kernel)) (fun _ h9 => h9) rfl dX0_peek_189 ?_
              refine va_get (D := (dC, dI)) (ci := 2) (v := .int 0) (C := RX2) (T := TX2) (N := 3) hx hb hts (by decide +kernel) hown hK hP 5 rfl rfl 2 (by decide) (hts (.fieldLink RX0 64 "UnibusMachine$Keyboard" "character" "I") (by decide +kernel)) (fun _ h9 => h9) rfl dX0_peek_192 ?_
              have hP9 := hP.sub (ws' := []) [] rfl
              have hD9 := hD.sub (ws' := []) [] (by decide) rfl
              have hK9 := hK.sub (tys' := []) [] rfl
              exact W.iret (v := 0) hx hb hr (fun t ht hW => ⟨⟨0, (), rfl, (by first | (exact dv_pos (by omega)) | (exact dv_zero (by omega) (by omega)) | (exact dv_neg (by omega) (by omega))), by rw [ht]; exact hP9, va_K.moved hW.alike hK9, hD9⟩, hS.F ht⟩) hS.2.2 dX0_peek_195
            have e57426 : p0.toInt ≠ 57426 := fun h => e57426 (fz_eq.mpr (h.trans (by decide)))
            by_cases e57428 : p0 = 57428
            · subst e57428
              have kk57428 : (57428 : Int32).toInt = 57428 := by decide
              refine lv_lookup (off := 113) (tgt := 196) hx hb dX0_peek_83 (by decide) (by decide) (by decide) ?_
              refine lv_aload_n hx hb dX0_peek_196 rfl (lv_at hl 0 rfl) ?_
              refine va_get (D := (dC, dI)) (ci := 0) (v := .ref oL) (C := RX0) (T := TX0) (N := 6) hx hb hts (by decide +kernel) hown hK hP 0 rfl rfl 4 (by decide) (hts (.fieldLink RX0 37 "UnibusMachine$Bus" "printer" "LUnibusMachine$Printer;") (by decide +kernel)) (fun _ h9 => h9) rfl dX0_peek_197 ?_
              refine va_get (D := (dC, dI)) (ci := 4) (v := .int 128) (C := RX5) (T := TX5) (N := 7) hx hb hts (by decide +kernel) hown hK hP 6 rfl rfl 0 (by decide) (hts (.fieldLink RX0 67 "UnibusMachine$Printer" "bits" "I") (by decide +kernel)) (u_same (hts (.sameField "UnibusMachine$Printer" "UnibusMachine$Line" "bits" "I") (by decide +kernel))) rfl dX0_peek_200 ?_
              have hP9 := hP.sub (ws' := []) [] rfl
              have hD9 := hD.sub (ws' := []) [] (by decide) rfl
              have hK9 := hK.sub (tys' := []) [] rfl
              exact W.iret (v := 128) hx hb hr (fun t ht hW => ⟨⟨128, (), rfl, (by first | (exact dv_pos (by omega)) | (exact dv_zero (by omega) (by omega)) | (exact dv_neg (by omega) (by omega))), by rw [ht]; exact hP9, va_K.moved hW.alike hK9, hD9⟩, hS.F ht⟩) hS.2.2 dX0_peek_203
            have e57428 : p0.toInt ≠ 57428 := fun h => e57428 (fz_eq.mpr (h.trans (by decide)))
            by_cases e57430 : p0 = 57430
            · subst e57430
              have kk57430 : (57430 : Int32).toInt = 57430 := by decide
              refine lv_lookup (off := 121) (tgt := 204) hx hb dX0_peek_83 (by decide) (by decide) (by decide) ?_
              refine lv_iconst (v := 0) hx hb dX0_peek_204 (by decide) ?_
              have hP9 := hP.sub (ws' := []) [] rfl
              have hD9 := hD.sub (ws' := []) [] (by decide) rfl
              have hK9 := hK.sub (tys' := []) [] rfl
              exact W.iret (v := 0) hx hb hr (fun t ht hW => ⟨⟨0, (), rfl, (by first | (exact dv_pos (by omega)) | (exact dv_zero (by omega) (by omega)) | (exact dv_neg (by omega) (by omega))), by rw [ht]; exact hP9, va_K.moved hW.alike hK9, hD9⟩, hS.F ht⟩) hS.2.2 dX0_peek_205
            have e57430 : p0.toInt ≠ 57430 := fun h => e57430 (fz_eq.mpr (h.trans (by decide)))
            by_cases e57440 : p0 = 57440
            · subst e57440
              have kk57440 : (57440 : Int32).toInt = 57440 := by decide
              refine lv_lookup (off := 123) (tgt := 206) hx hb dX0_peek_83 (by decide) (by decide) (by decide) ?_
              refine lv_aload_n hx hb dX0_peek_206 rfl (lv_at hl 0 rfl) ?_
              refine va_get (D := (dC, dI)) (ci := 0) (v := .ref oD) (C := RX0) (T := TX0) (N := 6) hx hb hts (by decide +kernel) hown hK hP 0 rfl rfl 5 (by decide) (hts (.fieldLink RX0 44 "UnibusMachine$Bus" "drive" "LUnibusMachine$Drive;") (by decide +kernel)) (fun _ h9 => h9) rfl dX0_peek_207 ?_
              refine va_get (D := (dC, dI)) (ci := 1) (v := .int 128) (C := RX1) (T := TX1) (N := 10) hx hb hts (by decide +kernel) hown hK hP 7 rfl rfl 0 (by decide) (hts (.fieldLink RX0 68 "UnibusMachine$Drive" "bits" "I") (by decide +kernel)) (u_same (hts (.sameField "UnibusMachine$Drive" "UnibusMachine$Line" "bits" "I") (by decide +kernel))) rfl dX0_peek_210 ?_
              refine lv_aload_n hx hb dX0_peek_213 rfl (lv_at hl 0 rfl) ?_
              refine va_get (D := (dC, dI)) (ci := 0) (v := .ref oD) (C := RX0) (T := TX0) (N := 6) hx hb hts (by decide +kernel) hown hK hP 0 rfl rfl 5 (by decide) (hts (.fieldLink RX0 44 "UnibusMachine$Bus" "drive" "LUnibusMachine$Drive;") (by decide +kernel)) (fun _ h9 => h9) rfl dX0_peek_214 ?_
              refine va_get (D := (dC, dI)) (ci := 1) (v := .int 0) (C := RX1) (T := TX1) (N := 10) hx hb hts (by decide +kernel) hown hK hP 7 rfl rfl 3 (by decide) (hts (.fieldLink RX0 69 "UnibusMachine$Drive" "writing" "I") (by decide +kernel)) (fun _ h9 => h9) rfl dX0_peek_217 ?_
              refine lv_ior hx hb dX0_peek_220 ?_
              refine lv_topi (fun y20 ey20 => ?_)
              obtain rfl : y20 = 128 := by rw [ey20]; decide
              refine lv_aload_n hx hb dX0_peek_221 rfl (lv_at hl 0 rfl) ?_
              refine va_get (D := (dC, dI)) (ci := 0) (v := .ref oD) (C := RX0) (T := TX0) (N := 6) hx hb hts (by decide +kernel) hown hK hP 0 rfl rfl 5 (by decide) (hts (.fieldLink RX0 44 "UnibusMachine$Bus" "drive" "LUnibusMachine$Drive;") (by decide +kernel)) (fun _ h9 => h9) rfl dX0_peek_222 ?_
              refine va_get (D := (dC, dI)) (ci := 1) (v := .int 0) (C := RX1) (T := TX1) (N := 10) hx hb hts (by decide +kernel) hown hK hP 7 rfl rfl 4 (by decide) (hts (.fieldLink RX0 72 "UnibusMachine$Drive" "wrong" "I") (by decide +kernel)) (fun _ h9 => h9) rfl dX0_peek_225 ?_
              refine lv_ior hx hb dX0_peek_228 ?_
              refine lv_topi (fun y21 ey21 => ?_)
              obtain rfl : y21 = 128 := by rw [ey21]; decide
              have hP9 := hP.sub (ws' := []) [] rfl
              have hD9 := hD.sub (ws' := []) [] (by decide) rfl
              have hK9 := hK.sub (tys' := []) [] rfl
              exact W.iret (v := 128) hx hb hr (fun t ht hW => ⟨⟨128, (), rfl, (by first | (exact dv_pos (by omega)) | (exact dv_zero (by omega) (by omega)) | (exact dv_neg (by omega) (by omega))), by rw [ht]; exact hP9, va_K.moved hW.alike hK9, hD9⟩, hS.F ht⟩) hS.2.2 dX0_peek_229
            have e57440 : p0.toInt ≠ 57440 := fun h => e57440 (fz_eq.mpr (h.trans (by decide)))
            by_cases e57442 : p0 = 57442
            · subst e57442
              have kk57442 : (57442 : Int32).toInt = 57442 := by decide
              refine lv_lookup (off := 147) (tgt := 230) hx hb dX0_peek_83 (by decide) (by decide) (by decide) ?_
              refine lv_aload_n hx hb dX0_peek_230 rfl (lv_at hl 0 rfl) ?_
              refine va_get (D := (dC, dI)) (ci := 0) (v := .ref oD) (C := RX0) (T := TX0) (N := 6) hx hb hts (by decide +kernel) hown hK hP 0 rfl rfl 5 (by decide) (hts (.fieldLink RX0 44 "UnibusMachine$Bus" "drive" "LUnibusMachine$Drive;") (by decide +kernel)) (fun _ h9 => h9) rfl dX0_peek_231 ?_
              refine va_get (D := (dC, dI)) (ci := 1) (v := .int 0) (C := RX1) (T := TX1) (N := 10) hx hb hts (by decide +kernel) hown hK hP 7 rfl rfl 5 (by decide) (hts (.fieldLink RX0 75 "UnibusMachine$Drive" "count" "I") (by decide +kernel)) (fun _ h9 => h9) rfl dX0_peek_234 ?_
              have hP9 := hP.sub (ws' := []) [] rfl
              have hD9 := hD.sub (ws' := []) [] (by decide) rfl
              have hK9 := hK.sub (tys' := []) [] rfl
              exact W.iret (v := 0) hx hb hr (fun t ht hW => ⟨⟨0, (), rfl, (by first | (exact dv_pos (by omega)) | (exact dv_zero (by omega) (by omega)) | (exact dv_neg (by omega) (by omega))), by rw [ht]; exact hP9, va_K.moved hW.alike hK9, hD9⟩, hS.F ht⟩) hS.2.2 dX0_peek_237
            have e57442 : p0.toInt ≠ 57442 := fun h => e57442 (fz_eq.mpr (h.trans (by decide)))
            by_cases e57444 : p0 = 57444
            · subst e57444
              have kk57444 : (57444 : Int32).toInt = 57444 := by decide
              refine lv_lookup (off := 155) (tgt := 238) hx hb dX0_peek_83 (by decide) (by decide) (by decide) ?_
              refine lv_aload_n hx hb dX0_peek_238 rfl (lv_at hl 0 rfl) ?_
              refine va_get (D := (dC, dI)) (ci := 0) (v := .ref oD) (C := RX0) (T := TX0) (N := 6) hx hb hts (by decide +kernel) hown hK hP 0 rfl rfl 5 (by decide) (hts (.fieldLink RX0 44 "UnibusMachine$Bus" "drive" "LUnibusMachine$Drive;") (by decide +kernel)) (fun _ h9 => h9) rfl dX0_peek_239 ?_
              refine va_get (D := (dC, dI)) (ci := 1) (v := .int 0) (C := RX1) (T := TX1) (N := 10) hx hb hts (by decide +kernel) hown hK hP 7 rfl rfl 6 (by decide) (hts (.fieldLink RX0 78 "UnibusMachine$Drive" "address" "I") (by decide +kernel)) (fun _ h9 => h9) rfl dX0_peek_242 ?_
              have hP9 := hP.sub (ws' := []) [] rfl
              have hD9 := hD.sub (ws' := []) [] (by decide) rfl
              have hK9 := hK.sub (tys' := []) [] rfl
              exact W.iret (v := 0) hx hb hr (fun t ht hW => ⟨⟨0, (), rfl, (by first | (exact dv_pos (by omega)) | (exact dv_zero (by omega) (by omega)) | (exact dv_neg (by omega) (by omega))), by rw [ht]; exact hP9, va_K.moved hW.alike hK9, hD9⟩, hS.F ht⟩) hS.2.2 dX0_peek_245
            have e57444 : p0.toInt ≠ 57444 := fun h => e57444 (fz_eq.mpr (h.trans (by decide)))
            by_cases e57446 : p0 = 57446
            · subst e57446
              have kk57446 : (57446 : Int32).toInt = 57446 := by decide
              refine lv_lookup (off := 163) (tgt := 246) hx hb dX0_peek_83 (by decide) (by decide) (by decide) ?_
              refine lv_aload_n hx hb dX0_peek_246 rfl (lv_at hl 0 rfl) ?_
              refine va_get (D := (dC, dI)) (ci := 0) (v := .ref oD) (C := RX0) (T := TX0) (N := 6) hx hb hts (by decide +kernel) hown hK hP 0 rfl rfl 5 (by decide) (hts (.fieldLink RX0 44 "UnibusMachine$Bus" "drive" "LUnibusMachine$Drive;") (by decide +kernel)) (fun _ h9 => h9) rfl dX0_peek_247 ?_
              refine va_get (D := (dC, dI)) (ci := 1) (v := .int 0) (C := RX1) (T := TX1) (N := 10) hx hb hts (by decide +kernel) hown hK hP 7 rfl rfl 7 (by decide) (hts (.fieldLink RX0 81 "UnibusMachine$Drive" "sector" "I") (by decide +kernel)) (fun _ h9 => h9) rfl dX0_peek_250 ?_
              have hP9 := hP.sub (ws' := []) [] rfl
              have hD9 := hD.sub (ws' := []) [] (by decide) rfl
              have hK9 := hK.sub (tys' := []) [] rfl
              exact W.iret (v := 0) hx hb hr (fun t ht hW => ⟨⟨0, (), rfl, (by first | (exact dv_pos (by omega)) | (exact dv_zero (by omega) (by omega)) | (exact dv_neg (by omega) (by omega))), by rw [ht]; exact hP9, va_K.moved hW.alike hK9, hD9⟩, hS.F ht⟩) hS.2.2 dX0_peek_253
            have e57446 : p0.toInt ≠ 57446 := fun h => e57446 (fz_eq.mpr (h.trans (by decide)))
            by_cases e57470 : p0 = 57470
            · subst e57470
              have kk57470 : (57470 : Int32).toInt = 57470 := by decide
              refine lv_lookup (off := 171) (tgt := 254) hx hb dX0_peek_83 (by decide) (by decide) (by decide) ?_
              refine lv_aload_n hx hb dX0_peek_254 rfl (lv_at hl 0 rfl) ?_
              refine va_get (D := (dC, dI)) (ci := 0) (v := .ref oS) (C := RX0) (T := TX0) (N := 6) hx hb hts (by decide +kernel) hown hK hP 0 rfl rfl 2 (by decide) (hts (.fieldLink RX0 23 "UnibusMachine$Bus" "status" "LUnibusMachine$Status;") (by decide +kernel)) (fun _ h9 => h9) rfl dX0_peek_255 ?_
              refine va_get (D := (dC, dI)) (ci := 6) (v := .int 0) (C := RX7) (T := TX7) (N := 2) hx hb hts (by decide +kernel) hown hK hP 4 rfl rfl 0 (by decide) (hts (.fieldLink RX0 84 "UnibusMachine$Status" "now" "I") (by decide +kernel)) (fun _ h9 => h9) rfl dX0_peek_258 ?_
              have hP9 := hP.sub (ws' := []) [] rfl
              have hD9 := hD.sub (ws' := []) [] (by decide) rfl
              have hK9 := hK.sub (tys' := []) [] rfl
              exact W.iret (v := 0) hx hb hr (fun t ht hW => ⟨⟨0, (), rfl, (by first | (exact dv_pos (by omega)) | (exact dv_zero (by omega) (by omega)) | (exact dv_neg (by omega) (by omega))), by rw [ht]; exact hP9, va_K.moved hW.alike hK9, hD9⟩, hS.F ht⟩) hS.2.2 dX0_peek_261
            have e57470 : p0.toInt ≠ 57470 := fun h => e57470 (fz_eq.mpr (h.trans (by decide)))
            refine lv_lookup (off := 179) (tgt := 262) hx hb dX0_peek_83 (by decide) (by simp [Op.lookupswitch.offset, Ne.symm e57408, e57408, Ne.symm e57424, e57424, Ne.symm e57426, e57426, Ne.symm e57428, e57428, Ne.symm e57430, e57430, Ne.symm e57440, e57440, Ne.symm e57442, e57442, Ne.symm e57444, e57444, Ne.symm e57446, e57446, Ne.symm e57470, e57470]) (by decide) ?_
            refine lv_iconst (v := (-1)) hx hb dX0_peek_262 (by decide) ?_
            have hP9 := hP.sub (ws' := []) [] rfl
            have hD9 := hD.sub (ws' := []) [] (by decide) rfl
            have hK9 := hK.sub (tys' := []) [] rfl
            exact W.iret (v := (-1)) hx hb hr (fun t ht hW => ⟨⟨(-1), (), rfl, (by first | (exact dv_pos (by omega)) | (exact dv_zero (by omega) (by omega)) | (exact dv_neg (by omega) (by omega))), by rw [ht]; exact hP9, va_K.moved hW.alike hK9, hD9⟩, hS.F ht⟩) hS.2.2 dX0_peek_263
          · have c19 := fz_nlt.mp c19
            have kk57376 : (57376 : Int32).toInt = 57376 := by decide
            refine lv_iload_n hx hb dX0_peek_61 rfl (lv_at hl 1 rfl) ?_
            refine lv_ldc (v := 57408) hx hb hown (hts (.constant RX0 53 (57408)) (by decide +kernel)) dX0_peek_62 ?_
            refine lv_icmp_ge (tgt := 82) hx hb dX0_peek_64 (by decide) (fun c22 => ?_) (fun c22 => ?_)
            · have c22 := fz_le.mp c22
              have kk57408 : (57408 : Int32).toInt = 57408 := by decide
              refine lv_iload_n hx hb dX0_peek_82 rfl (lv_at hl 1 rfl) ?_
              by_cases e57408 : p0 = 57408
              · subst e57408
                have kk57408 : (57408 : Int32).toInt = 57408 := by decide
                refine lv_lookup (off := 89) (tgt := 172) hx hb dX0_peek_83 (by decide) (by decide) (by decide) ?_
                refine lv_aload_n hx hb dX0_peek_172 rfl (lv_at hl 0 rfl) ?_
                refine va_get (D := (dC, dI)) (ci := 0) (v := .ref oM) (C := RX0) (T := TX0) (N := 6) hx hb hts (by decide +kernel) hown hK hP 0 rfl rfl 1 (by decide) (hts (.fieldLink RX0 16 "UnibusMachine$Bus" "map" "LUnibusMachine$PageMap;") (by decide +kernel)) (fun _ h9 => h9) rfl dX0_peek_173 ?_
                refine va_get (D := (dC, dI)) (ci := 3) (v := .int 0) (C := RX4) (T := TX4) (N := 3) hx hb hts (by decide +kernel) hown hK hP 1 rfl rfl 2 (by decide) (hts (.fieldLink RX0 57 "UnibusMachine$PageMap" "control" "I") (by decide +kernel)) (fun _ h9 => h9) rfl dX0_peek_176 ?_
                have hP9 := hP.sub (ws' := []) [] rfl
                have hD9 := hD.sub (ws' := []) [] (by decide) rfl
                have hK9 := hK.sub (tys' := []) [] rfl
                exact W.iret (v := 0) hx hb hr (fun t ht hW => ⟨⟨0, (), rfl, (by first | (exact dv_pos (by omega)) | (exact dv_zero (by omega) (by omega)) | (exact dv_neg (by omega) (by omega))), by rw [ht]; exact hP9, va_K.moved hW.alike hK9, hD9⟩, hS.F ht⟩) hS.2.2 dX0_peek_179
              have e57408 : p0.toInt ≠ 57408 := fun h => e57408 (fz_eq.mpr (h.trans (by decide)))
              by_cases e57424 : p0 = 57424
              · subst e57424
                have kk57424 : (57424 : Int32).toInt = 57424 := by decide
                refine lv_lookup (off := 97) (tgt := 180) hx hb dX0_peek_83 (by decide) (by decide) (by decide) ?_
                refine lv_aload_n hx hb dX0_peek_180 rfl (lv_at hl 0 rfl) ?_
                refine va_get (D := (dC, dI)) (ci := 0) (v := .ref oK) (C := RX0) (T := TX0) (N := 6) hx hb hts (by decide +kernel) hown hK hP 0 rfl rfl 3 (by decide) (hts (.fieldLink RX0 30 "UnibusMachine$Bus" "keyboard" "LUnibusMachine$Keyboard;") (by decide +kernel)) (fun _ h9 => h9) rfl dX0_peek_181 ?_
                refine va_get (D := (dC, dI)) (ci := 2) (v := .int 0) (C := RX2) (T := TX2) (N := 3) hx hb hts (by decide +kernel) hown hK hP 5 rfl rfl 0 (by decide) (hts (.fieldLink RX0 61 "UnibusMachine$Keyboard" "bits" "I") (by decide +kernel)) (u_same (hts (.sameField "UnibusMachine$Keyboard" "UnibusMachine$Line" "bits" "I") (by decide +kernel))) rfl dX0_peek_184 ?_
                have hP9 := hP.sub (ws' := []) [] rfl
                have hD9 := hD.sub (ws' := []) [] (by decide) rfl
                have hK9 := hK.sub (tys' := []) [] rfl
                exact W.iret (v := 0) hx hb hr (fun t ht hW => ⟨⟨0, (), rfl, (by first | (exact dv_pos (by omega)) | (exact dv_zero (by omega) (by omega)) | (exact dv_neg (by omega) (by omega))), by rw [ht]; exact hP9, va_K.moved hW.alike hK9, hD9⟩, hS.F ht⟩) hS.2.2 dX0_peek_187
              have e57424 : p0.toInt ≠ 57424 := fun h => e57424 (fz_eq.mpr (h.trans (by decide)))
              by_cases e57426 : p0 = 57426
              · subst e57426
                have kk57426 : (57426 : Int32).toInt = 57426 := by decide
                refine lv_lookup (off := 105) (tgt := 188) hx hb dX0_peek_83 (by decide) (by decide) (by decide) ?_
                refine lv_aload_n hx hb dX0_peek_188 rfl (lv_at hl 0 rfl) ?_
                refine va_get (D := (dC, dI)) (ci := 0) (v := .ref oK) (C := RX0) (T := TX0) (N := 6) hx hb hts (by decide +kernel) hown hK hP 0 rfl rfl 3 (by decide) (hts (.fieldLink RX0 30 "UnibusMachine$Bus" "keyboard" "LUnibusMachine$Keyboard;") (by decide +kernel)) (fun _ h9 => h9) rfl dX0_peek_189 ?_
                refine va_get (D := (dC, dI)) (ci := 2) (v := .int 0) (C := RX2) (T := TX2) (N := 3) hx hb hts (by decide +kernel) hown hK hP 5 rfl rfl 2 (by decide) (hts (.fieldLink RX0 64 "UnibusMachine$Keyboard" "character" "I") (by decide +kernel)) (fun _ h9 => h9) rfl dX0_peek_192 ?_
                have hP9 := hP.sub (ws' := []) [] rfl
                have hD9 := hD.sub (ws' := []) [] (by decide) rfl
                have hK9 := hK.sub (tys' := []) [] rfl
                exact W.iret (v := 0) hx hb hr (fun t ht hW => ⟨⟨0, (), rfl, (by first | (exact dv_pos (by omega)) | (exact dv_zero (by omega) (by omega)) | (exact dv_neg (by omega) (by omega))), by rw [ht]; exact hP9, va_K.moved hW.alike hK9, hD9⟩, hS.F ht⟩) hS.2.2 dX0_peek_195
              have e57426 : p0.toInt ≠ 57426 := fun h => e57426 (fz_eq.mpr (h.trans (by decide)))
              by_cases e57428 : p0 = 57428
              · subst e57428
                have kk57428 : (57428 : Int32).toInt = 57428 := by decide
                refine lv_lookup (off := 113) (tgt := 196) hx hb dX0_peek_83 (by decide) (by decide) (by decide) ?_
                refine lv_aload_n hx hb dX0_peek_196 rfl (lv_at hl 0 rfl) ?_
                refine va_get (D := (dC, dI)) (ci := 0) (v := .ref oL) (C := RX0) (T := TX0) (N := 6) hx hb hts (by decide +kernel) hown hK hP 0 rfl rfl 4 (by decide) (hts (.fieldLink RX0 37 "UnibusMachine$Bus" "printer" "LUnibusMachine$Printer;") (by decide +kernel)) (fun _ h9 => h9) rfl dX0_peek_197 ?_
                refine va_get (D := (dC, dI)) (ci := 4) (v := .int 128) (C := RX5) (T := TX5) (N := 7) hx hb hts (by decide +kernel) hown hK hP 6 rfl rfl 0 (by decide) (hts (.fieldLink RX0 67 "UnibusMachine$Printer" "bits" "I") (by decide +kernel)) (u_same (hts (.sameField "UnibusMachine$Printer" "UnibusMachine$Line" "bits" "I") (by decide +kernel))) rfl dX0_peek_200 ?_
                have hP9 := hP.sub (ws' := []) [] rfl
                have hD9 := hD.sub (ws' := []) [] (by decide) rfl
                have hK9 := hK.sub (tys' := []) [] rfl
                exact W.iret (v := 128) hx hb hr (fun t ht hW => ⟨⟨128, (), rfl, (by first | (exact dv_pos (by omega)) | (exact dv_zero (by omega) (by omega)) | (exact dv_neg (by omega) (by omega))), by rw [ht]; exact hP9, va_K.moved hW.alike hK9, hD9⟩, hS.F ht⟩) hS.2.2 dX0_peek_203
              have e57428 : p0.toInt ≠ 57428 := fun h => e57428 (fz_eq.mpr (h.trans (by decide)))
              by_cases e57430 : p0 = 57430
              · subst e57430
                have kk57430 : (57430 : Int32).toInt = 57430 := by decide
                refine lv_lookup (off := 121) (tgt := 204) hx hb dX0_peek_83 (by decide) (by decide) (by decide) ?_
                refine lv_iconst (v := 0) hx hb dX0_peek_204 (by decide) ?_
                have hP9 := hP.sub (ws' := []) [] rfl
                have hD9 := hD.sub (ws' := []) [] (by decide) rfl
                have hK9 := hK.sub (tys' := []) [] rfl
                exact W.iret (v := 0) hx hb hr (fun t ht hW => ⟨⟨0, (), rfl, (by first | (exact dv_pos (by omega)) | (exact dv_zero (by omega) (by omega)) | (exact dv_neg (by omega) (by omega))), by rw [ht]; exact hP9, va_K.moved hW.alike hK9, hD9⟩, hS.F ht⟩) hS.2.2 dX0_peek_205
              have e57430 : p0.toInt ≠ 57430 := fun h => e57430 (fz_eq.mpr (h.trans (by decide)))
              by_cases e57440 : p0 = 57440
              · subst e57440
                have kk57440 : (57440 : Int32).toInt = 57440 := by decide
                refine lv_lookup (off := 123) (tgt := 206) hx hb dX0_peek_83 (by decide) (by decide) (by decide) ?_
                refine lv_aload_n hx hb dX0_peek_206 rfl (lv_at hl 0 rfl) ?_
                refine va_get (D := (dC, dI)) (ci := 0) (v := .ref oD) (C := RX0) (T := TX0) (N := 6) hx hb hts (by decide +kernel) hown hK hP 0 rfl rfl 5 (by decide) (hts (.fieldLink RX0 44 "UnibusMachine$Bus" "drive" "LUnibusMachine$Drive;") (by decide +kernel)) (fun _ h9 => h9) rfl dX0_peek_207 ?_
                refine va_get (D := (dC, dI)) (ci := 1) (v := .int 128) (C := RX1) (T := TX1) (N := 10) hx hb hts (by decide +kernel) hown hK hP 7 rfl rfl 0 (by decide) (hts (.fieldLink RX0 68 "UnibusMachine$Drive" "bits" "I") (by decide +kernel)) (u_same (hts (.sameField "UnibusMachine$Drive" "UnibusMachine$Line" "bits" "I") (by decide +kernel))) rfl dX0_peek_210 ?_
                refine lv_aload_n hx hb dX0_peek_213 rfl (lv_at hl 0 rfl) ?_
                refine va_get (D := (dC, dI)) (ci := 0) (v := .ref oD) (C := RX0) (T := TX0) (N := 6) hx hb hts (by decide +kernel) hown hK hP 0 rfl rfl 5 (by decide) (hts (.fieldLink RX0 44 "UnibusMachine$Bus" "drive" "LUnibusMachine$Drive;") (by decide +kernel)) (fun _ h9 => h9) rfl dX0_peek_214 ?_
                refine va_get (D := (dC, dI)) (ci := 1) (v := .int 0) (C := RX1) (T := TX1) (N := 10) hx hb hts (by decide +kernel) hown hK hP 7 rfl rfl 3 (by decide) (hts (.fieldLink RX0 69 "UnibusMachine$Drive" "writing" "I") (by decide +kernel)) (fun _ h9 => h9) rfl dX0_peek_217 ?_
                refine lv_ior hx hb dX0_peek_220 ?_
                refine lv_topi (fun y23 ey23 => ?_)
                obtain rfl : y23 = 128 := by rw [ey23]; decide
                refine lv_aload_n hx hb dX0_peek_221 rfl (lv_at hl 0 rfl) ?_
                refine va_get (D := (dC, dI)) (ci := 0) (v := .ref oD) (C := RX0) (T := TX0) (N := 6) hx hb hts (by decide +kernel) hown hK hP 0 rfl rfl 5 (by decide) (hts (.fieldLink RX0 44 "UnibusMachine$Bus" "drive" "LUnibusMachine$Drive;") (by decide +kernel)) (fun _ h9 => h9) rfl dX0_peek_222 ?_
                refine va_get (D := (dC, dI)) (ci := 1) (v := .int 0) (C := RX1) (T := TX1) (N := 10) hx hb hts (by decide +kernel) hown hK hP 7 rfl rfl 4 (by decide) (hts (.fieldLink RX0 72 "UnibusMachine$Drive" "wrong" "I") (by decide +kernel)) (fun _ h9 => h9) rfl dX0_peek_225 ?_
                refine lv_ior hx hb dX0_peek_228 ?_
                refine lv_topi (fun y24 ey24 => ?_)
                obtain rfl : y24 = 128 := by rw [ey24]; decide
                have hP9 := hP.sub (ws' := []) [] rfl
                have hD9 := hD.sub (ws' := []) [] (by decide) rfl
                have hK9 := hK.sub (tys' := []) [] rfl
                exact W.iret (v := 128) hx hb hr (fun t ht hW => ⟨⟨128, (), rfl, (by first | (exact dv_pos (by omega)) | (exact dv_zero (by omega) (by omega)) | (exact dv_neg (by omega) (by omega))), by rw [ht]; exact hP9, va_K.moved hW.alike hK9, hD9⟩, hS.F ht⟩) hS.2.2 dX0_peek_229
              have e57440 : p0.toInt ≠ 57440 := fun h => e57440 (fz_eq.mpr (h.trans (by decide)))
              by_cases e57442 : p0 = 57442
              · subst e57442
                have kk57442 : (57442 : Int32).toInt = 57442 := by decide
                refine lv_lookup (off := 147) (tgt := 230) hx hb dX0_peek_83 (by decide) (by decide) (by decide) ?_
                refine lv_aload_n hx hb dX0_peek_230 rfl (lv_at hl 0 rfl) ?_
                refine va_get (D := (dC, dI)) (ci := 0) (v := .ref oD) (C := RX0) (T := TX0) (N := 6) hx hb hts (by decide +kernel) hown hK hP 0 rfl rfl 5 (by decide) (hts (.fieldLink RX0 44 "UnibusMachine$Bus" "drive" "LUnibusMachine$Drive;") (by decide +kernel)) (fun _ h9 => h9) rfl dX0_peek_231 ?_
                refine va_get (D := (dC, dI)) (ci := 1) (v := .int 0) (C := RX1) (T := TX1) (N := 10) hx hb hts (by decide +kernel) hown hK hP 7 rfl rfl 5 (by decide) (hts (.fieldLink RX0 75 "UnibusMachine$Drive" "count" "I") (by decide +kernel)) (fun _ h9 => h9) rfl dX0_peek_234 ?_
                have hP9 := hP.sub (ws' := []) [] rfl
                have hD9 := hD.sub (ws' := []) [] (by decide) rfl
                have hK9 := hK.sub (tys' := []) [] rfl
                exact W.iret (v := 0) hx hb hr (fun t ht hW => ⟨⟨0, (), rfl, (by first | (exact dv_pos (by omega)) | (exact dv_zero (by omega) (by omega)) | (exact dv_neg (by omega) (by omega))), by rw [ht]; exact hP9, va_K.moved hW.alike hK9, hD9⟩, hS.F ht⟩) hS.2.2 dX0_peek_237
              have e57442 : p0.toInt ≠ 57442 := fun h => e57442 (fz_eq.mpr (h.trans (by decide)))
              by_cases e57444 : p0 = 57444
              · subst e57444
                have kk57444 : (57444 : Int32).toInt = 57444 := by decide
                refine lv_lookup (off := 155) (tgt := 238) hx hb dX0_peek_83 (by decide) (by decide) (by decide) ?_
                refine lv_aload_n hx hb dX0_peek_238 rfl (lv_at hl 0 rfl) ?_
                refine va_get (D := (dC, dI)) (ci := 0) (v := .ref oD) (C := RX0) (T := TX0) (N := 6) hx hb hts (by decide +kernel) hown hK hP 0 rfl rfl 5 (by decide) (hts (.fieldLink RX0 44 "UnibusMachine$Bus" "drive" "LUnibusMachine$Drive;") (by decide +kernel)) (fun _ h9 => h9) rfl dX0_peek_239 ?_
                refine va_get (D := (dC, dI)) (ci := 1) (v := .int 0) (C := RX1) (T := TX1) (N := 10) hx hb hts (by decide +kernel) hown hK hP 7 rfl rfl 6 (by decide) (hts (.fieldLink RX0 78 "UnibusMachine$Drive" "address" "I") (by decide +kernel)) (fun _ h9 => h9) rfl dX0_peek_242 ?_
                have hP9 := hP.sub (ws' := []) [] rfl
                have hD9 := hD.sub (ws' := []) [] (by decide) rfl
                have hK9 := hK.sub (tys' := []) [] rfl
                exact W.iret (v := 0) hx hb hr (fun t ht hW => ⟨⟨0, (), rfl, (by first | (exact dv_pos (by omega)) | (exact dv_zero (by omega) (by omega)) | (exact dv_neg (by omega) (by omega))), by rw [ht]; exact hP9, va_K.moved hW.alike hK9, hD9⟩, hS.F ht⟩) hS.2.2 dX0_peek_245
              have e57444 : p0.toInt ≠ 57444 := fun h => e57444 (fz_eq.mpr (h.trans (by decide)))
              by_cases e57446 : p0 = 57446
              · subst e57446
                have kk57446 : (57446 : Int32).toInt = 57446 := by decide
                refine lv_lookup (off := 163) (tgt := 246) hx hb dX0_peek_83 (by decide) (by decide) (by decide) ?_
                refine lv_aload_n hx hb dX0_peek_246 rfl (lv_at hl 0 rfl) ?_
                refine va_get (D := (dC, dI)) (ci := 0) (v := .ref oD) (C := RX0) (T := TX0) (N := 6) hx hb hts (by decide +kernel) hown hK hP 0 rfl rfl 5 (by decide) (hts (.fieldLink RX0 44 "UnibusMachine$Bus" "drive" "LUnibusMachine$Drive;") (by decide +kernel)) (fun _ h9 => h9) rfl dX0_peek_247 ?_
                refine va_get (D := (dC, dI)) (ci := 1) (v := .int 0) (C := RX1) (T := TX1) (N := 10) hx hb hts (by decide +kernel) hown hK hP 7 rfl rfl 7 (by decide) (hts (.fieldLink RX0 81 "UnibusMachine$Drive" "sector" "I") (by decide +kernel)) (fun _ h9 => h9) rfl dX0_peek_250 ?_
                have hP9 := hP.sub (ws' := []) [] rfl
                have hD9 := hD.sub (ws' := []) [] (by decide) rfl
                have hK9 := hK.sub (tys' := []) [] rfl
                exact W.iret (v := 0) hx hb hr (fun t ht hW => ⟨⟨0, (), rfl, (by first | (exact dv_pos (by omega)) | (exact dv_zero (by omega) (by omega)) | (exact dv_neg (by omega) (by omega))), by rw [ht]; exact hP9, va_K.moved hW.alike hK9, hD9⟩, hS.F ht⟩) hS.2.2 dX0_peek_253
              have e57446 : p0.toInt ≠ 57446 := fun h => e57446 (fz_eq.mpr (h.trans (by decide)))
              by_cases e57470 : p0 = 57470
              · subst e57470
                have kk57470 : (57470 : Int32).toInt = 57470 := by decide
                refine lv_lookup (off := 171) (tgt := 254) hx hb dX0_peek_83 (by decide) (by decide) (by decide) ?_
                refine lv_aload_n hx hb dX0_peek_254 rfl (lv_at hl 0 rfl) ?_
                refine va_get (D := (dC, dI)) (ci := 0) (v := .ref oS) (C := RX0) (T := TX0) (N := 6) hx hb hts (by decide +kernel) hown hK hP 0 rfl rfl 2 (by decide) (hts (.fieldLink RX0 23 "UnibusMachine$Bus" "status" "LUnibusMachine$Status;") (by decide +kernel)) (fun _ h9 => h9) rfl dX0_peek_255 ?_
                refine va_get (D := (dC, dI)) (ci := 6) (v := .int 0) (C := RX7) (T := TX7) (N := 2) hx hb hts (by decide +kernel) hown hK hP 4 rfl rfl 0 (by decide) (hts (.fieldLink RX0 84 "UnibusMachine$Status" "now" "I") (by decide +kernel)) (fun _ h9 => h9) rfl dX0_peek_258 ?_
                have hP9 := hP.sub (ws' := []) [] rfl
                have hD9 := hD.sub (ws' := []) [] (by decide) rfl
                have hK9 := hK.sub (tys' := []) [] rfl
                exact W.iret (v := 0) hx hb hr (fun t ht hW => ⟨⟨0, (), rfl, (by first | (exact dv_pos (by omega)) | (exact dv_zero (by omega) (by omega)) | (exact dv_neg (by omega) (by omega))), by rw [ht]; exact hP9, va_K.moved hW.alike hK9, hD9⟩, hS.F ht⟩) hS.2.2 dX0_peek_261
              have e57470 : p0.toInt ≠ 57470 := fun h => e57470 (fz_eq.mpr (h.trans (by decide)))
              refine lv_lookup (off := 179) (tgt := 262) hx hb dX0_peek_83 (by decide) (by simp [Op.lookupswitch.offset, Ne.symm e57408, e57408, Ne.symm e57424, e57424, Ne.symm e57426, e57426, Ne.symm e57428, e57428, Ne.symm e57430, e57430, Ne.symm e57440, e57440, Ne.symm e57442, e57442, Ne.symm e57444, e57444, Ne.symm e57446, e57446, Ne.symm e57470, e57470]) (by decide) ?_
              refine lv_iconst (v := (-1)) hx hb dX0_peek_262 (by decide) ?_
              have hP9 := hP.sub (ws' := []) [] rfl
              have hD9 := hD.sub (ws' := []) [] (by decide) rfl
              have hK9 := hK.sub (tys' := []) [] rfl
              exact W.iret (v := (-1)) hx hb hr (fun t ht hW => ⟨⟨(-1), (), rfl, (by first | (exact dv_pos (by omega)) | (exact dv_zero (by omega) (by omega)) | (exact dv_neg (by omega) (by omega))), by rw [ht]; exact hP9, va_K.moved hW.alike hK9, hD9⟩, hS.F ht⟩) hS.2.2 dX0_peek_263
            · have c22 := fz_nle.mp c22
              have kk57408 : (57408 : Int32).toInt = 57408 := by decide
              refine lv_aload_n hx hb dX0_peek_67 rfl (lv_at hl 0 rfl) ?_
              refine va_get (D := (dC, dI)) (ci := 0) (v := .ref oM) (C := RX0) (T := TX0) (N := 6) hx hb hts (by decide +kernel) hown hK hP 0 rfl rfl 1 (by decide) (hts (.fieldLink RX0 16 "UnibusMachine$Bus" "map" "LUnibusMachine$PageMap;") (by decide +kernel)) (fun _ h9 => h9) rfl dX0_peek_68 ?_
              refine va_get (D := (dC, dI)) (ci := 3) (v := .ref ab) (C := RX4) (T := TX4) (N := 3) hx hb hts (by decide +kernel) hown hK hP 1 rfl rfl 1 (by decide) (hts (.fieldLink RX0 54 "UnibusMachine$PageMap" "bases" "[I") (by decide +kernel)) (fun _ h9 => h9) rfl dX0_peek_71 ?_
              refine lv_iload_n hx hb dX0_peek_74 rfl (lv_at hl 1 rfl) ?_
              refine lv_ldc (v := 57376) hx hb hown (hts (.constant RX0 49 (57376)) (by decide +kernel)) dX0_peek_75 ?_
              refine lv_isub hx hb dX0_peek_77 ?_
              have f2 := fz_sub p0 57376 (by omega) (by omega)
              refine lv_iconst (v := 1) hx hb dX0_peek_78 (by decide) ?_
              refine lv_ishr hx hb dX0_peek_79 ?_
              have f3 := fz_shr1 (p0 - 57376) (by omega)
              refine va_iald (D := (dC, dI)) hx hb hK hP 3 1 rfl rfl (vp_in_iff.mpr (by constructor <;> omega)) dX0_peek_80 ?_
              have hP9 := hP.sub (ws' := []) [] rfl
              have hD9 := hD.sub (ws' := []) [] (by decide) rfl
              have hK9 := hK.sub (tys' := []) [] rfl
              exact W.iret (v := 0) hx hb hr (fun t ht hW => ⟨⟨0, (), rfl, (by first | (exact dv_pos (by omega)) | (exact dv_zero (by omega) (by omega)) | (exact dv_neg (by omega) (by omega))), by rw [ht]; exact hP9, va_K.moved hW.alike hK9, hD9⟩, hS.F ht⟩) hS.2.2 dX0_peek_81
        · have c18 := fz_nlt.mp c18
          have kk57344 : (57344 : Int32).toInt = 57344 := by decide
          refine lv_iload_n hx hb dX0_peek_34 rfl (lv_at hl 1 rfl) ?_
          refine lv_ldc (v := 57376) hx hb hown (hts (.constant RX0 49 (57376)) (by decide +kernel)) dX0_peek_35 ?_
          refine lv_icmp_ge (tgt := 55) hx hb dX0_peek_37 (by decide) (fun c25 => ?_) (fun c25 => ?_)
          · have c25 := fz_le.mp c25
            have kk57376 : (57376 : Int32).toInt = 57376 := by decide
            refine lv_iload_n hx hb dX0_peek_55 rfl (lv_at hl 1 rfl) ?_
            refine lv_ldc (v := 57376) hx hb hown (hts (.constant RX0 49 (57376)) (by decide +kernel)) dX0_peek_56 ?_
            refine lv_icmp_lt (tgt := 82) hx hb dX0_peek_58 (by decide) (fun c26 => ?_) (fun c26 => ?_)
            · have c26 := fz_lt.mp c26
              have kk57376 : (57376 : Int32).toInt = 57376 := by decide
              refine lv_iload_n hx hb dX0_peek_82 rfl (lv_at hl 1 rfl) ?_
              by_cases e57408 : p0 = 57408
              · subst e57408
                have kk57408 : (57408 : Int32).toInt = 57408 := by decide
                refine lv_lookup (off := 89) (tgt := 172) hx hb dX0_peek_83 (by decide) (by decide) (by decide) ?_
                refine lv_aload_n hx hb dX0_peek_172 rfl (lv_at hl 0 rfl) ?_
                refine va_get (D := (dC, dI)) (ci := 0) (v := .ref oM) (C := RX0) (T := TX0) (N := 6) hx hb hts (by decide +kernel) hown hK hP 0 rfl rfl 1 (by decide) (hts (.fieldLink RX0 16 "UnibusMachine$Bus" "map" "LUnibusMachine$PageMap;") (by decide +kernel)) (fun _ h9 => h9) rfl dX0_peek_173 ?_
                refine va_get (D := (dC, dI)) (ci := 3) (v := .int 0) (C := RX4) (T := TX4) (N := 3) hx hb hts (by decide +kernel) hown hK hP 1 rfl rfl 2 (by decide) (hts (.fieldLink RX0 57 "UnibusMachine$PageMap" "control" "I") (by decide +kernel)) (fun _ h9 => h9) rfl dX0_peek_176 ?_
                have hP9 := hP.sub (ws' := []) [] rfl
                have hD9 := hD.sub (ws' := []) [] (by decide) rfl
                have hK9 := hK.sub (tys' := []) [] rfl
                exact W.iret (v := 0) hx hb hr (fun t ht hW => ⟨⟨0, (), rfl, (by first | (exact dv_pos (by omega)) | (exact dv_zero (by omega) (by omega)) | (exact dv_neg (by omega) (by omega))), by rw [ht]; exact hP9, va_K.moved hW.alike hK9, hD9⟩, hS.F ht⟩) hS.2.2 dX0_peek_179
              have e57408 : p0.toInt ≠ 57408 := fun h => e57408 (fz_eq.mpr (h.trans (by decide)))
              by_cases e57424 : p0 = 57424
              · subst e57424
                have kk57424 : (57424 : Int32).toInt = 57424 := by decide
                refine lv_lookup (off := 97) (tgt := 180) hx hb dX0_peek_83 (by decide) (by decide) (by decide) ?_
                refine lv_aload_n hx hb dX0_peek_180 rfl (lv_at hl 0 rfl) ?_
                refine va_get (D := (dC, dI)) (ci := 0) (v := .ref oK) (C := RX0) (T := TX0) (N := 6) hx hb hts (by decide +kernel) hown hK hP 0 rfl rfl 3 (by decide) (hts (.fieldLink RX0 30 "UnibusMachine$Bus" "keyboard" "LUnibusMachine$Keyboard;") (by decide +kernel)) (fun _ h9 => h9) rfl dX0_peek_181 ?_
                refine va_get (D := (dC, dI)) (ci := 2) (v := .int 0) (C := RX2) (T := TX2) (N := 3) hx hb hts (by decide +kernel) hown hK hP 5 rfl rfl 0 (by decide) (hts (.fieldLink RX0 61 "UnibusMachine$Keyboard" "bits" "I") (by decide +kernel)) (u_same (hts (.sameField "UnibusMachine$Keyboard" "UnibusMachine$Line" "bits" "I") (by decide +kernel))) rfl dX0_peek_184 ?_
                have hP9 := hP.sub (ws' := []) [] rfl
                have hD9 := hD.sub (ws' := []) [] (by decide) rfl
                have hK9 := hK.sub (tys' := []) [] rfl
                exact W.iret (v := 0) hx hb hr (fun t ht hW => ⟨⟨0, (), rfl, (by first | (exact dv_pos (by omega)) | (exact dv_zero (by omega) (by omega)) | (exact dv_neg (by omega) (by omega))), by rw [ht]; exact hP9, va_K.moved hW.alike hK9, hD9⟩, hS.F ht⟩) hS.2.2 dX0_peek_187
              have e57424 : p0.toInt ≠ 57424 := fun h => e57424 (fz_eq.mpr (h.trans (by decide)))
              by_cases e57426 : p0 = 57426
              · subst e57426
                have kk57426 : (57426 : Int32).toInt = 57426 := by decide
                refine lv_lookup (off := 105) (tgt := 188) hx hb dX0_peek_83 (by decide) (by decide) (by decide) ?_
                refine lv_aload_n hx hb dX0_peek_188 rfl (lv_at hl 0 rfl) ?_
                refine va_get (D := (dC, dI)) (ci := 0) (v := .ref oK) (C := RX0) (T := TX0) (N := 6) hx hb hts (by decide +kernel) hown hK hP 0 rfl rfl 3 (by decide) (hts (.fieldLink RX0 30 "UnibusMachine$Bus" "keyboard" "LUnibusMachine$Keyboard;") (by decide +kernel)) (fun _ h9 => h9) rfl dX0_peek_189 ?_
                refine va_get (D := (dC, dI)) (ci := 2) (v := .int 0) (C := RX2) (T := TX2) (N := 3) hx hb hts (by decide +kernel) hown hK hP 5 rfl rfl 2 (by decide) (hts (.fieldLink RX0 64 "UnibusMachine$Keyboard" "character" "I") (by decide +kernel)) (fun _ h9 => h9) rfl dX0_peek_192 ?_
                have hP9 := hP.sub (ws' := []) [] rfl
                have hD9 := hD.sub (ws' := []) [] (by decide) rfl
                have hK9 := hK.sub (tys' := []) [] rfl
                exact W.iret (v := 0) hx hb hr (fun t ht hW => ⟨⟨0, (), rfl, (by first | (exact dv_pos (by omega)) | (exact dv_zero (by omega) (by omega)) | (exact dv_neg (by omega) (by omega))), by rw [ht]; exact hP9, va_K.moved hW.alike hK9, hD9⟩, hS.F ht⟩) hS.2.2 dX0_peek_195
              have e57426 : p0.toInt ≠ 57426 := fun h => e57426 (fz_eq.mpr (h.trans (by decide)))
              by_cases e57428 : p0 = 57428
              · subst e57428
                have kk57428 : (57428 : Int32).toInt = 57428 := by decide
                refine lv_lookup (off := 113) (tgt := 196) hx hb dX0_peek_83 (by decide) (by decide) (by decide) ?_
                refine lv_aload_n hx hb dX0_peek_196 rfl (lv_at hl 0 rfl) ?_
                refine va_get (D := (dC, dI)) (ci := 0) (v := .ref oL) (C := RX0) (T := TX0) (N := 6) hx hb hts (by decide +kernel) hown hK hP 0 rfl rfl 4 (by decide) (hts (.fieldLink RX0 37 "UnibusMachine$Bus" "printer" "LUnibusMachine$Printer;") (by decide +kernel)) (fun _ h9 => h9) rfl dX0_peek_197 ?_
                refine va_get (D := (dC, dI)) (ci := 4) (v := .int 128) (C := RX5) (T := TX5) (N := 7) hx hb hts (by decide +kernel) hown hK hP 6 rfl rfl 0 (by decide) (hts (.fieldLink RX0 67 "UnibusMachine$Printer" "bits" "I") (by decide +kernel)) (u_same (hts (.sameField "UnibusMachine$Printer" "UnibusMachine$Line" "bits" "I") (by decide +kernel))) rfl dX0_peek_200 ?_
                have hP9 := hP.sub (ws' := []) [] rfl
                have hD9 := hD.sub (ws' := []) [] (by decide) rfl
                have hK9 := hK.sub (tys' := []) [] rfl
                exact W.iret (v := 128) hx hb hr (fun t ht hW => ⟨⟨128, (), rfl, (by first | (exact dv_pos (by omega)) | (exact dv_zero (by omega) (by omega)) | (exact dv_neg (by omega) (by omega))), by rw [ht]; exact hP9, va_K.moved hW.alike hK9, hD9⟩, hS.F ht⟩) hS.2.2 dX0_peek_203
              have e57428 : p0.toInt ≠ 57428 := fun h => e57428 (fz_eq.mpr (h.trans (by decide)))
              by_cases e57430 : p0 = 57430
              · subst e57430
                have kk57430 : (57430 : Int32).toInt = 57430 := by decide
                refine lv_lookup (off := 121) (tgt := 204) hx hb dX0_peek_83 (by decide) (by decide) (by decide) ?_
                refine lv_iconst (v := 0) hx hb dX0_peek_204 (by decide) ?_
                have hP9 := hP.sub (ws' := []) [] rfl
                have hD9 := hD.sub (ws' := []) [] (by decide) rfl
                have hK9 := hK.sub (tys' := []) [] rfl
                exact W.iret (v := 0) hx hb hr (fun t ht hW => ⟨⟨0, (), rfl, (by first | (exact dv_pos (by omega)) | (exact dv_zero (by omega) (by omega)) | (exact dv_neg (by omega) (by omega))), by rw [ht]; exact hP9, va_K.moved hW.alike hK9, hD9⟩, hS.F ht⟩) hS.2.2 dX0_peek_205
              have e57430 : p0.toInt ≠ 57430 := fun h => e57430 (fz_eq.mpr (h.trans (by decide)))
              by_cases e57440 : p0 = 57440
              · subst e57440
                have kk57440 : (57440 : Int32).toInt = 57440 := by decide
                refine lv_lookup (off := 123) (tgt := 206) hx hb dX0_peek_83 (by decide) (by decide) (by decide) ?_
                refine lv_aload_n hx hb dX0_peek_206 rfl (lv_at hl 0 rfl) ?_
                refine va_get (D := (dC, dI)) (ci := 0) (v := .ref oD) (C := RX0) (T := TX0) (N := 6) hx hb hts (by decide +kernel) hown hK hP 0 rfl rfl 5 (by decide) (hts (.fieldLink RX0 44 "UnibusMachine$Bus" "drive" "LUnibusMachine$Drive;") (by decide +kernel)) (fun _ h9 => h9) rfl dX0_peek_207 ?_
                refine va_get (D := (dC, dI)) (ci := 1) (v := .int 128) (C := RX1) (T := TX1) (N := 10) hx hb hts (by decide +kernel) hown hK hP 7 rfl rfl 0 (by decide) (hts (.fieldLink RX0 68 "UnibusMachine$Drive" "bits" "I") (by decide +kernel)) (u_same (hts (.sameField "UnibusMachine$Drive" "UnibusMachine$Line" "bits" "I") (by decide +kernel))) rfl dX0_peek_210 ?_
                refine lv_aload_n hx hb dX0_peek_213 rfl (lv_at hl 0 rfl) ?_
                refine va_get (D := (dC, dI)) (ci := 0) (v := .ref oD) (C := RX0) (T := TX0) (N := 6) hx hb hts (by decide +kernel) hown hK hP 0 rfl rfl 5 (by decide) (hts (.fieldLink RX0 44 "UnibusMachine$Bus" "drive" "LUnibusMachine$Drive;") (by decide +kernel)) (fun _ h9 => h9) rfl dX0_peek_214 ?_
                refine va_get (D := (dC, dI)) (ci := 1) (v := .int 0) (C := RX1) (T := TX1) (N := 10) hx hb hts (by decide +kernel) hown hK hP 7 rfl rfl 3 (by decide) (hts (.fieldLink RX0 69 "UnibusMachine$Drive" "writing" "I") (by decide +kernel)) (fun _ h9 => h9) rfl dX0_peek_217 ?_
                refine lv_ior hx hb dX0_peek_220 ?_
                refine lv_topi (fun y27 ey27 => ?_)
                obtain rfl : y27 = 128 := by rw [ey27]; decide
                refine lv_aload_n hx hb dX0_peek_221 rfl (lv_at hl 0 rfl) ?_
                refine va_get (D := (dC, dI)) (ci := 0) (v := .ref oD) (C := RX0) (T := TX0) (N := 6) hx hb hts (by decide +kernel) hown hK hP 0 rfl rfl 5 (by decide) (hts (.fieldLink RX0 44 "UnibusMachine$Bus" "drive" "LUnibusMachine$Drive;") (by decide +kernel)) (fun _ h9 => h9) rfl dX0_peek_222 ?_
                refine va_get (D := (dC, dI)) (ci := 1) (v := .int 0) (C := RX1) (T := TX1) (N := 10) hx hb hts (by decide +kernel) hown hK hP 7 rfl rfl 4 (by decide) (hts (.fieldLink RX0 72 "UnibusMachine$Drive" "wrong" "I") (by decide +kernel)) (fun _ h9 => h9) rfl dX0_peek_225 ?_
                refine lv_ior hx hb dX0_peek_228 ?_
                refine lv_topi (fun y28 ey28 => ?_)
                obtain rfl : y28 = 128 := by rw [ey28]; decide
                have hP9 := hP.sub (ws' := []) [] rfl
                have hD9 := hD.sub (ws' := []) [] (by decide) rfl
                have hK9 := hK.sub (tys' := []) [] rfl
                exact W.iret (v := 128) hx hb hr (fun t ht hW => ⟨⟨128, (), rfl, (by first | (exact dv_pos (by omega)) | (exact dv_zero (by omega) (by omega)) | (exact dv_neg (by omega) (by omega))), by rw [ht]; exact hP9, va_K.moved hW.alike hK9, hD9⟩, hS.F ht⟩) hS.2.2 dX0_peek_229
              have e57440 : p0.toInt ≠ 57440 := fun h => e57440 (fz_eq.mpr (h.trans (by decide)))
              by_cases e57442 : p0 = 57442
              · subst e57442
                have kk57442 : (57442 : Int32).toInt = 57442 := by decide
                refine lv_lookup (off := 147) (tgt := 230) hx hb dX0_peek_83 (by decide) (by decide) (by decide) ?_
                refine lv_aload_n hx hb dX0_peek_230 rfl (lv_at hl 0 rfl) ?_
                refine va_get (D := (dC, dI)) (ci := 0) (v := .ref oD) (C := RX0) (T := TX0) (N := 6) hx hb hts (by decide +kernel) hown hK hP 0 rfl rfl 5 (by decide) (hts (.fieldLink RX0 44 "UnibusMachine$Bus" "drive" "LUnibusMachine$Drive;") (by decide +kernel)) (fun _ h9 => h9) rfl dX0_peek_231 ?_
                refine va_get (D := (dC, dI)) (ci := 1) (v := .int 0) (C := RX1) (T := TX1) (N := 10) hx hb hts (by decide +kernel) hown hK hP 7 rfl rfl 5 (by decide) (hts (.fieldLink RX0 75 "UnibusMachine$Drive" "count" "I") (by decide +kernel)) (fun _ h9 => h9) rfl dX0_peek_234 ?_
                have hP9 := hP.sub (ws' := []) [] rfl
                have hD9 := hD.sub (ws' := []) [] (by decide) rfl
                have hK9 := hK.sub (tys' := []) [] rfl
                exact W.iret (v := 0) hx hb hr (fun t ht hW => ⟨⟨0, (), rfl, (by first | (exact dv_pos (by omega)) | (exact dv_zero (by omega) (by omega)) | (exact dv_neg (by omega) (by omega))), by rw [ht]; exact hP9, va_K.moved hW.alike hK9, hD9⟩, hS.F ht⟩) hS.2.2 dX0_peek_237
              have e57442 : p0.toInt ≠ 57442 := fun h => e57442 (fz_eq.mpr (h.trans (by decide)))
              by_cases e57444 : p0 = 57444
              · subst e57444
                have kk57444 : (57444 : Int32).toInt = 57444 := by decide
                refine lv_lookup (off := 155) (tgt := 238) hx hb dX0_peek_83 (by decide) (by decide) (by decide) ?_
                refine lv_aload_n hx hb dX0_peek_238 rfl (lv_at hl 0 rfl) ?_
                refine va_get (D := (dC, dI)) (ci := 0) (v := .ref oD) (C := RX0) (T := TX0) (N := 6) hx hb hts (by decide +kernel) hown hK hP 0 rfl rfl 5 (by decide) (hts (.fieldLink RX0 44 "UnibusMachine$Bus" "drive" "LUnibusMachine$Drive;") (by decide +kernel)) (fun _ h9 => h9) rfl dX0_peek_239 ?_
                refine va_get (D := (dC, dI)) (ci := 1) (v := .int 0) (C := RX1) (T := TX1) (N := 10) hx hb hts (by decide +kernel) hown hK hP 7 rfl rfl 6 (by decide) (hts (.fieldLink RX0 78 "UnibusMachine$Drive" "address" "I") (by decide +kernel)) (fun _ h9 => h9) rfl dX0_peek_242 ?_
                have hP9 := hP.sub (ws' := []) [] rfl
                have hD9 := hD.sub (ws' := []) [] (by decide) rfl
                have hK9 := hK.sub (tys' := []) [] rfl
                exact W.iret (v := 0) hx hb hr (fun t ht hW => ⟨⟨0, (), rfl, (by first | (exact dv_pos (by omega)) | (exact dv_zero (by omega) (by omega)) | (exact dv_neg (by omega) (by omega))), by rw [ht]; exact hP9, va_K.moved hW.alike hK9, hD9⟩, hS.F ht⟩) hS.2.2 dX0_peek_245
              have e57444 : p0.toInt ≠ 57444 := fun h => e57444 (fz_eq.mpr (h.trans (by decide)))
              by_cases e57446 : p0 = 57446
              · subst e57446
                have kk57446 : (57446 : Int32).toInt = 57446 := by decide
                refine lv_lookup (off := 163) (tgt := 246) hx hb dX0_peek_83 (by decide) (by decide) (by decide) ?_
                refine lv_aload_n hx hb dX0_peek_246 rfl (lv_at hl 0 rfl) ?_
                refine va_get (D := (dC, dI)) (ci := 0) (v := .ref oD) (C := RX0) (T := TX0) (N := 6) hx hb hts (by decide +kernel) hown hK hP 0 rfl rfl 5 (by decide) (hts (.fieldLink RX0 44 "UnibusMachine$Bus" "drive" "LUnibusMachine$Drive;") (by decide +kernel)) (fun _ h9 => h9) rfl dX0_peek_247 ?_
                refine va_get (D := (dC, dI)) (ci := 1) (v := .int 0) (C := RX1) (T := TX1) (N := 10) hx hb hts (by decide +kernel) hown hK hP 7 rfl rfl 7 (by decide) (hts (.fieldLink RX0 81 "UnibusMachine$Drive" "sector" "I") (by decide +kernel)) (fun _ h9 => h9) rfl dX0_peek_250 ?_
                have hP9 := hP.sub (ws' := []) [] rfl
                have hD9 := hD.sub (ws' := []) [] (by decide) rfl
                have hK9 := hK.sub (tys' := []) [] rfl
                exact W.iret (v := 0) hx hb hr (fun t ht hW => ⟨⟨0, (), rfl, (by first | (exact dv_pos (by omega)) | (exact dv_zero (by omega) (by omega)) | (exact dv_neg (by omega) (by omega))), by rw [ht]; exact hP9, va_K.moved hW.alike hK9, hD9⟩, hS.F ht⟩) hS.2.2 dX0_peek_253
              have e57446 : p0.toInt ≠ 57446 := fun h => e57446 (fz_eq.mpr (h.trans (by decide)))
              by_cases e57470 : p0 = 57470
              · subst e57470
                have kk57470 : (57470 : Int32).toInt = 57470 := by decide
                refine lv_lookup (off := 171) (tgt := 254) hx hb dX0_peek_83 (by decide) (by decide) (by decide) ?_
                refine lv_aload_n hx hb dX0_peek_254 rfl (lv_at hl 0 rfl) ?_
                refine va_get (D := (dC, dI)) (ci := 0) (v := .ref oS) (C := RX0) (T := TX0) (N := 6) hx hb hts (by decide +kernel) hown hK hP 0 rfl rfl 2 (by decide) (hts (.fieldLink RX0 23 "UnibusMachine$Bus" "status" "LUnibusMachine$Status;") (by decide +kernel)) (fun _ h9 => h9) rfl dX0_peek_255 ?_
                refine va_get (D := (dC, dI)) (ci := 6) (v := .int 0) (C := RX7) (T := TX7) (N := 2) hx hb hts (by decide +kernel) hown hK hP 4 rfl rfl 0 (by decide) (hts (.fieldLink RX0 84 "UnibusMachine$Status" "now" "I") (by decide +kernel)) (fun _ h9 => h9) rfl dX0_peek_258 ?_
                have hP9 := hP.sub (ws' := []) [] rfl
                have hD9 := hD.sub (ws' := []) [] (by decide) rfl
                have hK9 := hK.sub (tys' := []) [] rfl
                exact W.iret (v := 0) hx hb hr (fun t ht hW => ⟨⟨0, (), rfl, (by first | (exact dv_pos (by omega)) | (exact dv_zero (by omega) (by omega)) | (exact dv_neg (by omega) (by omega))), by rw [ht]; exact hP9, va_K.moved hW.alike hK9, hD9⟩, hS.F ht⟩) hS.2.2 dX0_peek_261
              have e57470 : p0.toInt ≠ 57470 := fun h => e57470 (fz_eq.mpr (h.trans (by decide)))
              refine lv_lookup (off := 179) (tgt := 262) hx hb dX0_peek_83 (by decide) (by simp [Op.lookupswitch.offset, Ne.symm e57408, e57408, Ne.symm e57424, e57424, Ne.symm e57426, e57426, Ne.symm e57428, e57428, Ne.symm e57430, e57430, Ne.symm e57440, e57440, Ne.symm e57442, e57442, Ne.symm e57444, e57444, Ne.symm e57446, e57446, Ne.symm e57470, e57470]) (by decide) ?_
              refine lv_iconst (v := (-1)) hx hb dX0_peek_262 (by decide) ?_
              have hP9 := hP.sub (ws' := []) [] rfl
              have hD9 := hD.sub (ws' := []) [] (by decide) rfl
              have hK9 := hK.sub (tys' := []) [] rfl
              exact W.iret (v := (-1)) hx hb hr (fun t ht hW => ⟨⟨(-1), (), rfl, (by first | (exact dv_pos (by omega)) | (exact dv_zero (by omega) (by omega)) | (exact dv_neg (by omega) (by omega))), by rw [ht]; exact hP9, va_K.moved hW.alike hK9, hD9⟩, hS.F ht⟩) hS.2.2 dX0_peek_263
            · have c26 := fz_nlt.mp c26
              have kk57376 : (57376 : Int32).toInt = 57376 := by decide
              refine lv_iload_n hx hb dX0_peek_61 rfl (lv_at hl 1 rfl) ?_
              refine lv_ldc (v := 57408) hx hb hown (hts (.constant RX0 53 (57408)) (by decide +kernel)) dX0_peek_62 ?_
              refine lv_icmp_ge (tgt := 82) hx hb dX0_peek_64 (by decide) (fun c29 => ?_) (fun c29 => ?_)
              · have c29 := fz_le.mp c29
                have kk57408 : (57408 : Int32).toInt = 57408 := by decide
                refine lv_iload_n hx hb dX0_peek_82 rfl (lv_at hl 1 rfl) ?_
                by_cases e57408 : p0 = 57408
                · subst e57408
                  have kk57408 : (57408 : Int32).toInt = 57408 := by decide
                  refine lv_lookup (off := 89) (tgt := 172) hx hb dX0_peek_83 (by decide) (by decide) (by decide) ?_
                  refine lv_aload_n hx hb dX0_peek_172 rfl (lv_at hl 0 rfl) ?_
                  refine va_get (D := (dC, dI)) (ci := 0) (v := .ref oM) (C := RX0) (T := TX0) (N := 6) hx hb hts (by decide +kernel) hown hK hP 0 rfl rfl 1 (by decide) (hts (.fieldLink RX0 16 "UnibusMachine$Bus" "map" "LUnibusMachine$PageMap;") (by decide +kernel)) (fun _ h9 => h9) rfl dX0_peek_173 ?_
                  refine va_get (D := (dC, dI)) (ci := 3) (v := .int 0) (C := RX4) (T := TX4) (N := 3) hx hb hts (by decide +kernel) hown hK hP 1 rfl rfl 2 (by decide) (hts (.fieldLink RX0 57 "UnibusMachine$PageMap" "control" "I") (by decide +kernel)) (fun _ h9 => h9) rfl dX0_peek_176 ?_
                  have hP9 := hP.sub (ws' := []) [] rfl
                  have hD9 := hD.sub (ws' := []) [] (by decide) rfl
                  have hK9 := hK.sub (tys' := []) [] rfl
                  exact W.iret (v := 0) hx hb hr (fun t ht hW => ⟨⟨0, (), rfl, (by first | (exact dv_pos (by omega)) | (exact dv_zero (by omega) (by omega)) | (exact dv_neg (by omega) (by omega))), by rw [ht]; exact hP9, va_K.moved hW.alike hK9, hD9⟩, hS.F ht⟩) hS.2.2 dX0_peek_179
                have e57408 : p0.toInt ≠ 57408 := fun h => e57408 (fz_eq.mpr (h.trans (by decide)))
                by_cases e57424 : p0 = 57424
                · subst e57424
                  have kk57424 : (57424 : Int32).toInt = 57424 := by decide
                  refine lv_lookup (off := 97) (tgt := 180) hx hb dX0_peek_83 (by decide) (by decide) (by decide) ?_
                  refine lv_aload_n hx hb dX0_peek_180 rfl (lv_at hl 0 rfl) ?_
                  refine va_get (D := (dC, dI)) (ci := 0) (v := .ref oK) (C := RX0) (T := TX0) (N := 6) hx hb hts (by decide +kernel) hown hK hP 0 rfl rfl 3 (by decide) (hts (.fieldLink RX0 30 "UnibusMachine$Bus" "keyboard" "LUnibusMachine$Keyboard;") (by decide +kernel)) (fun _ h9 => h9) rfl dX0_peek_181 ?_
                  refine va_get (D := (dC, dI)) (ci := 2) (v := .int 0) (C := RX2) (T := TX2) (N := 3) hx hb hts (by decide +kernel) hown hK hP 5 rfl rfl 0 (by decide) (hts (.fieldLink RX0 61 "UnibusMachine$Keyboard" "bits" "I") (by decide +kernel)) (u_same (hts (.sameField "UnibusMachine$Keyboard" "UnibusMachine$Line" "bits" "I") (by decide +kernel))) rfl dX0_peek_184 ?_
                  have hP9 := hP.sub (ws' := []) [] rfl
                  have hD9 := hD.sub (ws' := []) [] (by decide) rfl
                  have hK9 := hK.sub (tys' := []) [] rfl
                  exact W.iret (v := 0) hx hb hr (fun t ht hW => ⟨⟨0, (), rfl, (by first | (exact dv_pos (by omega)) | (exact dv_zero (by omega) (by omega)) | (exact dv_neg (by omega) (by omega))), by rw [ht]; exact hP9, va_K.moved hW.alike hK9, hD9⟩, hS.F ht⟩) hS.2.2 dX0_peek_187
                have e57424 : p0.toInt ≠ 57424 := fun h => e57424 (fz_eq.mpr (h.trans (by decide)))
                by_cases e57426 : p0 = 57426
                · subst e57426
                  have kk57426 : (57426 : Int32).toInt = 57426 := by decide
                  refine lv_lookup (off := 105) (tgt := 188) hx hb dX0_peek_83 (by decide) (by decide) (by decide) ?_
                  refine lv_aload_n hx hb dX0_peek_188 rfl (lv_at hl 0 rfl) ?_
                  refine va_get (D := (dC, dI)) (ci := 0) (v := .ref oK) (C := RX0) (T := TX0) (N := 6) hx hb hts (by decide +kernel) hown hK hP 0 rfl rfl 3 (by decide) (hts (.fieldLink RX0 30 "UnibusMachine$Bus" "keyboard" "LUnibusMachine$Keyboard;") (by decide +kernel)) (fun _ h9 => h9) rfl dX0_peek_189 ?_
                  refine va_get (D := (dC, dI)) (ci := 2) (v := .int 0) (C := RX2) (T := TX2) (N := 3) hx hb hts (by decide +kernel) hown hK hP 5 rfl rfl 2 (by decide) (hts (.fieldLink RX0 64 "UnibusMachine$Keyboard" "character" "I") (by decide +kernel)) (fun _ h9 => h9) rfl dX0_peek_192 ?_
                  have hP9 := hP.sub (ws' := []) [] rfl
                  have hD9 := hD.sub (ws' := []) [] (by decide) rfl
                  have hK9 := hK.sub (tys' := []) [] rfl
                  exact W.iret (v := 0) hx hb hr (fun t ht hW => ⟨⟨0, (), rfl, (by first | (exact dv_pos (by omega)) | (exact dv_zero (by omega) (by omega)) | (exact dv_neg (by omega) (by omega))), by rw [ht]; exact hP9, va_K.moved hW.alike hK9, hD9⟩, hS.F ht⟩) hS.2.2 dX0_peek_195
                have e57426 : p0.toInt ≠ 57426 := fun h => e57426 (fz_eq.mpr (h.trans (by decide)))
                by_cases e57428 : p0 = 57428
                · subst e57428
                  have kk57428 : (57428 : Int32).toInt = 57428 := by decide
                  refine lv_lookup (off := 113) (tgt := 196) hx hb dX0_peek_83 (by decide) (by decide) (by decide) ?_
                  refine lv_aload_n hx hb dX0_peek_196 rfl (lv_at hl 0 rfl) ?_
                  refine va_get (D := (dC, dI)) (ci := 0) (v := .ref oL) (C := RX0) (T := TX0) (N := 6) hx hb hts (by decide +kernel) hown hK hP 0 rfl rfl 4 (by decide) (hts (.fieldLink RX0 37 "UnibusMachine$Bus" "printer" "LUnibusMachine$Printer;") (by decide +kernel)) (fun _ h9 => h9) rfl dX0_peek_197 ?_
                  refine va_get (D := (dC, dI)) (ci := 4) (v := .int 128) (C := RX5) (T := TX5) (N := 7) hx hb hts (by decide +kernel) hown hK hP 6 rfl rfl 0 (by decide) (hts (.fieldLink RX0 67 "UnibusMachine$Printer" "bits" "I") (by decide +kernel)) (u_same (hts (.sameField "UnibusMachine$Printer" "UnibusMachine$Line" "bits" "I") (by decide +kernel))) rfl dX0_peek_200 ?_
                  have hP9 := hP.sub (ws' := []) [] rfl
                  have hD9 := hD.sub (ws' := []) [] (by decide) rfl
                  have hK9 := hK.sub (tys' := []) [] rfl
                  exact W.iret (v := 128) hx hb hr (fun t ht hW => ⟨⟨128, (), rfl, (by first | (exact dv_pos (by omega)) | (exact dv_zero (by omega) (by omega)) | (exact dv_neg (by omega) (by omega))), by rw [ht]; exact hP9, va_K.moved hW.alike hK9, hD9⟩, hS.F ht⟩) hS.2.2 dX0_peek_203
                have e57428 : p0.toInt ≠ 57428 := fun h => e57428 (fz_eq.mpr (h.trans (by decide)))
                by_cases e57430 : p0 = 57430
                · subst e57430
                  have kk57430 : (57430 : Int32).toInt = 57430 := by decide
                  refine lv_lookup (off := 121) (tgt := 204) hx hb dX0_peek_83 (by decide) (by decide) (by decide) ?_
                  refine lv_iconst (v := 0) hx hb dX0_peek_204 (by decide) ?_
                  have hP9 := hP.sub (ws' := []) [] rfl
                  have hD9 := hD.sub (ws' := []) [] (by decide) rfl
                  have hK9 := hK.sub (tys' := []) [] rfl
                  exact W.iret (v := 0) hx hb hr (fun t ht hW => ⟨⟨0, (), rfl, (by first | (exact dv_pos (by omega)) | (exact dv_zero (by omega) (by omega)) | (exact dv_neg (by omega) (by omega))), by rw [ht]; exact hP9, va_K.moved hW.alike hK9, hD9⟩, hS.F ht⟩) hS.2.2 dX0_peek_205
                have e57430 : p0.toInt ≠ 57430 := fun h => e57430 (fz_eq.mpr (h.trans (by decide)))
                by_cases e57440 : p0 = 57440
                · subst e57440
                  have kk57440 : (57440 : Int32).toInt = 57440 := by decide
                  refine lv_lookup (off := 123) (tgt := 206) hx hb dX0_peek_83 (by decide) (by decide) (by decide) ?_
                  refine lv_aload_n hx hb dX0_peek_206 rfl (lv_at hl 0 rfl) ?_
                  refine va_get (D := (dC, dI)) (ci := 0) (v := .ref oD) (C := RX0) (T := TX0) (N := 6) hx hb hts (by decide +kernel) hown hK hP 0 rfl rfl 5 (by decide) (hts (.fieldLink RX0 44 "UnibusMachine$Bus" "drive" "LUnibusMachine$Drive;") (by decide +kernel)) (fun _ h9 => h9) rfl dX0_peek_207 ?_
                  refine va_get (D := (dC, dI)) (ci := 1) (v := .int 128) (C := RX1) (T := TX1) (N := 10) hx hb hts (by decide +kernel) hown hK hP 7 rfl rfl 0 (by decide) (hts (.fieldLink RX0 68 "UnibusMachine$Drive" "bits" "I") (by decide +kernel)) (u_same (hts (.sameField "UnibusMachine$Drive" "UnibusMachine$Line" "bits" "I") (by decide +kernel))) rfl dX0_peek_210 ?_
                  refine lv_aload_n hx hb dX0_peek_213 rfl (lv_at hl 0 rfl) ?_
                  refine va_get (D := (dC, dI)) (ci := 0) (v := .ref oD) (C := RX0) (T := TX0) (N := 6) hx hb hts (by decide +kernel) hown hK hP 0 rfl rfl 5 (by decide) (hts (.fieldLink RX0 44 "UnibusMachine$Bus" "drive" "LUnibusMachine$Drive;") (by decide +kernel)) (fun _ h9 => h9) rfl dX0_peek_214 ?_
                  refine va_get (D := (dC, dI)) (ci := 1) (v := .int 0) (C := RX1) (T := TX1) (N := 10) hx hb hts (by decide +kernel) hown hK hP 7 rfl rfl 3 (by decide) (hts (.fieldLink RX0 69 "UnibusMachine$Drive" "writing" "I") (by decide +kernel)) (fun _ h9 => h9) rfl dX0_peek_217 ?_
                  refine lv_ior hx hb dX0_peek_220 ?_
                  refine lv_topi (fun y30 ey30 => ?_)
                  obtain rfl : y30 = 128 := by rw [ey30]; decide
                  refine lv_aload_n hx hb dX0_peek_221 rfl (lv_at hl 0 rfl) ?_
                  refine va_get (D := (dC, dI)) (ci := 0) (v := .ref oD) (C := RX0) (T := TX0) (N := 6) hx hb hts (by decide +kernel) hown hK hP 0 rfl rfl 5 (by decide) (hts (.fieldLink RX0 44 "UnibusMachine$Bus" "drive" "LUnibusMachine$Drive;") (by decide +kernel)) (fun _ h9 => h9) rfl dX0_peek_222 ?_
                  refine va_get (D := (dC, dI)) (ci := 1) (v := .int 0) (C := RX1) (T := TX1) (N := 10) hx hb hts (by decide +kernel) hown hK hP 7 rfl rfl 4 (by decide) (hts (.fieldLink RX0 72 "UnibusMachine$Drive" "wrong" "I") (by decide +kernel)) (fun _ h9 => h9) rfl dX0_peek_225 ?_
                  refine lv_ior hx hb dX0_peek_228 ?_
                  refine lv_topi (fun y31 ey31 => ?_)
                  obtain rfl : y31 = 128 := by rw [ey31]; decide
                  have hP9 := hP.sub (ws' := []) [] rfl
                  have hD9 := hD.sub (ws' := []) [] (by decide) rfl
                  have hK9 := hK.sub (tys' := []) [] rfl
                  exact W.iret (v := 128) hx hb hr (fun t ht hW => ⟨⟨128, (), rfl, (by first | (exact dv_pos (by omega)) | (exact dv_zero (by omega) (by omega)) | (exact dv_neg (by omega) (by omega))), by rw [ht]; exact hP9, va_K.moved hW.alike hK9, hD9⟩, hS.F ht⟩) hS.2.2 dX0_peek_229
                have e57440 : p0.toInt ≠ 57440 := fun h => e57440 (fz_eq.mpr (h.trans (by decide)))
                by_cases e57442 : p0 = 57442
                · subst e57442
                  have kk57442 : (57442 : Int32).toInt = 57442 := by decide
                  refine lv_lookup (off := 147) (tgt := 230) hx hb dX0_peek_83 (by decide) (by decide) (by decide) ?_
                  refine lv_aload_n hx hb dX0_peek_230 rfl (lv_at hl 0 rfl) ?_
                  refine va_get (D := (dC, dI)) (ci := 0) (v := .ref oD) (C := RX0) (T := TX0) (N := 6) hx hb hts (by decide +kernel) hown hK hP 0 rfl rfl 5 (by decide) (hts (.fieldLink RX0 44 "UnibusMachine$Bus" "drive" "LUnibusMachine$Drive;") (by decide +kernel)) (fun _ h9 => h9) rfl dX0_peek_231 ?_
                  refine va_get (D := (dC, dI)) (ci := 1) (v := .int 0) (C := RX1) (T := TX1) (N := 10) hx hb hts (by decide +kernel) hown hK hP 7 rfl rfl 5 (by decide) (hts (.fieldLink RX0 75 "UnibusMachine$Drive" "count" "I") (by decide +kernel)) (fun _ h9 => h9) rfl dX0_peek_234 ?_
                  have hP9 := hP.sub (ws' := []) [] rfl
                  have hD9 := hD.sub (ws' := []) [] (by decide) rfl
                  have hK9 := hK.sub (tys' := []) [] rfl
                  exact W.iret (v := 0) hx hb hr (fun t ht hW => ⟨⟨0, (), rfl, (by first | (exact dv_pos (by omega)) | (exact dv_zero (by omega) (by omega)) | (exact dv_neg (by omega) (by omega))), by rw [ht]; exact hP9, va_K.moved hW.alike hK9, hD9⟩, hS.F ht⟩) hS.2.2 dX0_peek_237
                have e57442 : p0.toInt ≠ 57442 := fun h => e57442 (fz_eq.mpr (h.trans (by decide)))
                by_cases e57444 : p0 = 57444
                · subst e57444
                  have kk57444 : (57444 : Int32).toInt = 57444 := by decide
                  refine lv_lookup (off := 155) (tgt := 238) hx hb dX0_peek_83 (by decide) (by decide) (by decide) ?_
                  refine lv_aload_n hx hb dX0_peek_238 rfl (lv_at hl 0 rfl) ?_
                  refine va_get (D := (dC, dI)) (ci := 0) (v := .ref oD) (C := RX0) (T := TX0) (N := 6) hx hb hts (by decide +kernel) hown hK hP 0 rfl rfl 5 (by decide) (hts (.fieldLink RX0 44 "UnibusMachine$Bus" "drive" "LUnibusMachine$Drive;") (by decide +kernel)) (fun _ h9 => h9) rfl dX0_peek_239 ?_
                  refine va_get (D := (dC, dI)) (ci := 1) (v := .int 0) (C := RX1) (T := TX1) (N := 10) hx hb hts (by decide +kernel) hown hK hP 7 rfl rfl 6 (by decide) (hts (.fieldLink RX0 78 "UnibusMachine$Drive" "address" "I") (by decide +kernel)) (fun _ h9 => h9) rfl dX0_peek_242 ?_
                  have hP9 := hP.sub (ws' := []) [] rfl
                  have hD9 := hD.sub (ws' := []) [] (by decide) rfl
                  have hK9 := hK.sub (tys' := []) [] rfl
                  exact W.iret (v := 0) hx hb hr (fun t ht hW => ⟨⟨0, (), rfl, (by first | (exact dv_pos (by omega)) | (exact dv_zero (by omega) (by omega)) | (exact dv_neg (by omega) (by omega))), by rw [ht]; exact hP9, va_K.moved hW.alike hK9, hD9⟩, hS.F ht⟩) hS.2.2 dX0_peek_245
                have e57444 : p0.toInt ≠ 57444 := fun h => e57444 (fz_eq.mpr (h.trans (by decide)))
                by_cases e57446 : p0 = 57446
                · subst e57446
                  have kk57446 : (57446 : Int32).toInt = 57446 := by decide
                  refine lv_lookup (off := 163) (tgt := 246) hx hb dX0_peek_83 (by decide) (by decide) (by decide) ?_
                  refine lv_aload_n hx hb dX0_peek_246 rfl (lv_at hl 0 rfl) ?_
                  refine va_get (D := (dC, dI)) (ci := 0) (v := .ref oD) (C := RX0) (T := TX0) (N := 6) hx hb hts (by decide +kernel) hown hK hP 0 rfl rfl 5 (by decide) (hts (.fieldLink RX0 44 "UnibusMachine$Bus" "drive" "LUnibusMachine$Drive;") (by decide +kernel)) (fun _ h9 => h9) rfl dX0_peek_247 ?_
                  refine va_get (D := (dC, dI)) (ci := 1) (v := .int 0) (C := RX1) (T := TX1) (N := 10) hx hb hts (by decide +kernel) hown hK hP 7 rfl rfl 7 (by decide) (hts (.fieldLink RX0 81 "UnibusMachine$Drive" "sector" "I") (by decide +kernel)) (fun _ h9 => h9) rfl dX0_peek_250 ?_
                  have hP9 := hP.sub (ws' := []) [] rfl
                  have hD9 := hD.sub (ws' := []) [] (by decide) rfl
                  have hK9 := hK.sub (tys' := []) [] rfl
                  exact W.iret (v := 0) hx hb hr (fun t ht hW => ⟨⟨0, (), rfl, (by first | (exact dv_pos (by omega)) | (exact dv_zero (by omega) (by omega)) | (exact dv_neg (by omega) (by omega))), by rw [ht]; exact hP9, va_K.moved hW.alike hK9, hD9⟩, hS.F ht⟩) hS.2.2 dX0_peek_253
                have e57446 : p0.toInt ≠ 57446 := fun h => e57446 (fz_eq.mpr (h.trans (by decide)))
                by_cases e57470 : p0 = 57470
                · subst e57470
                  have kk57470 : (57470 : Int32).toInt = 57470 := by decide
                  refine lv_lookup (off := 171) (tgt := 254) hx hb dX0_peek_83 (by decide) (by decide) (by decide) ?_
                  refine lv_aload_n hx hb dX0_peek_254 rfl (lv_at hl 0 rfl) ?_
                  refine va_get (D := (dC, dI)) (ci := 0) (v := .ref oS) (C := RX0) (T := TX0) (N := 6) hx hb hts (by decide +kernel) hown hK hP 0 rfl rfl 2 (by decide) (hts (.fieldLink RX0 23 "UnibusMachine$Bus" "status" "LUnibusMachine$Status;") (by decide +kernel)) (fun _ h9 => h9) rfl dX0_peek_255 ?_
                  refine va_get (D := (dC, dI)) (ci := 6) (v := .int 0) (C := RX7) (T := TX7) (N := 2) hx hb hts (by decide +kernel) hown hK hP 4 rfl rfl 0 (by decide) (hts (.fieldLink RX0 84 "UnibusMachine$Status" "now" "I") (by decide +kernel)) (fun _ h9 => h9) rfl dX0_peek_258 ?_
                  have hP9 := hP.sub (ws' := []) [] rfl
                  have hD9 := hD.sub (ws' := []) [] (by decide) rfl
                  have hK9 := hK.sub (tys' := []) [] rfl
                  exact W.iret (v := 0) hx hb hr (fun t ht hW => ⟨⟨0, (), rfl, (by first | (exact dv_pos (by omega)) | (exact dv_zero (by omega) (by omega)) | (exact dv_neg (by omega) (by omega))), by rw [ht]; exact hP9, va_K.moved hW.alike hK9, hD9⟩, hS.F ht⟩) hS.2.2 dX0_peek_261
                have e57470 : p0.toInt ≠ 57470 := fun h => e57470 (fz_eq.mpr (h.trans (by decide)))
                refine lv_lookup (off := 179) (tgt := 262) hx hb dX0_peek_83 (by decide) (by simp [Op.lookupswitch.offset, Ne.symm e57408, e57408, Ne.symm e57424, e57424, Ne.symm e57426, e57426, Ne.symm e57428, e57428, Ne.symm e57430, e57430, Ne.symm e57440, e57440, Ne.symm e57442, e57442, Ne.symm e57444, e57444, Ne.symm e57446, e57446, Ne.symm e57470, e57470]) (by decide) ?_
                refine lv_iconst (v := (-1)) hx hb dX0_peek_262 (by decide) ?_
                have hP9 := hP.sub (ws' := []) [] rfl
                have hD9 := hD.sub (ws' := []) [] (by decide) rfl
                have hK9 := hK.sub (tys' := []) [] rfl
                exact W.iret (v := (-1)) hx hb hr (fun t ht hW => ⟨⟨(-1), (), rfl, (by first | (exact dv_pos (by omega)) | (exact dv_zero (by omega) (by omega)) | (exact dv_neg (by omega) (by omega))), by rw [ht]; exact hP9, va_K.moved hW.alike hK9, hD9⟩, hS.F ht⟩) hS.2.2 dX0_peek_263
              · have c29 := fz_nle.mp c29
                have kk57408 : (57408 : Int32).toInt = 57408 := by decide
                refine lv_aload_n hx hb dX0_peek_67 rfl (lv_at hl 0 rfl) ?_
                refine va_get (D := (dC, dI)) (ci := 0) (v := .ref oM) (C := RX0) (T := TX0) (N := 6) hx hb hts (by decide +kernel) hown hK hP 0 rfl rfl 1 (by decide) (hts (.fieldLink RX0 16 "UnibusMachine$Bus" "map" "LUnibusMachine$PageMap;") (by decide +kernel)) (fun _ h9 => h9) rfl dX0_peek_68 ?_
                refine va_get (D := (dC, dI)) (ci := 3) (v := .ref ab) (C := RX4) (T := TX4) (N := 3) hx hb hts (by decide +kernel) hown hK hP 1 rfl rfl 1 (by decide) (hts (.fieldLink RX0 54 "UnibusMachine$PageMap" "bases" "[I") (by decide +kernel)) (fun _ h9 => h9) rfl dX0_peek_71 ?_
                refine lv_iload_n hx hb dX0_peek_74 rfl (lv_at hl 1 rfl) ?_
                refine lv_ldc (v := 57376) hx hb hown (hts (.constant RX0 49 (57376)) (by decide +kernel)) dX0_peek_75 ?_
                refine lv_isub hx hb dX0_peek_77 ?_
                have f2 := fz_sub p0 57376 (by omega) (by omega)
                refine lv_iconst (v := 1) hx hb dX0_peek_78 (by decide) ?_
                refine lv_ishr hx hb dX0_peek_79 ?_
                have f3 := fz_shr1 (p0 - 57376) (by omega)
                refine va_iald (D := (dC, dI)) hx hb hK hP 3 1 rfl rfl (vp_in_iff.mpr (by constructor <;> omega)) dX0_peek_80 ?_
                have hP9 := hP.sub (ws' := []) [] rfl
                have hD9 := hD.sub (ws' := []) [] (by decide) rfl
                have hK9 := hK.sub (tys' := []) [] rfl
                exact W.iret (v := 0) hx hb hr (fun t ht hW => ⟨⟨0, (), rfl, (by first | (exact dv_pos (by omega)) | (exact dv_zero (by omega) (by omega)) | (exact dv_neg (by omega) (by omega))), by rw [ht]; exact hP9, va_K.moved hW.alike hK9, hD9⟩, hS.F ht⟩) hS.2.2 dX0_peek_81
          · have c25 := fz_nle.mp c25
            have kk57376 : (57376 : Int32).toInt = 57376 := by decide
            refine lv_aload_n hx hb dX0_peek_40 rfl (lv_at hl 0 rfl) ?_
            refine va_get (D := (dC, dI)) (ci := 0) (v := .ref oM) (C := RX0) (T := TX0) (N := 6) hx hb hts (by decide +kernel) hown hK hP 0 rfl rfl 1 (by decide) (hts (.fieldLink RX0 16 "UnibusMachine$Bus" "map" "LUnibusMachine$PageMap;") (by decide +kernel)) (fun _ h9 => h9) rfl dX0_peek_41 ?_
            refine va_get (D := (dC, dI)) (ci := 3) (v := .ref ad) (C := RX4) (T := TX4) (N := 3) hx hb hts (by decide +kernel) hown hK hP 1 rfl rfl 0 (by decide) (hts (.fieldLink RX0 50 "UnibusMachine$PageMap" "descriptors" "[I") (by decide +kernel)) (fun _ h9 => h9) rfl dX0_peek_44 ?_
            refine lv_iload_n hx hb dX0_peek_47 rfl (lv_at hl 1 rfl) ?_
            refine lv_ldc (v := 57344) hx hb hown (hts (.constant RX0 48 (57344)) (by decide +kernel)) dX0_peek_48 ?_
            refine lv_isub hx hb dX0_peek_50 ?_
            have f2 := fz_sub p0 57344 (by omega) (by omega)
            refine lv_iconst (v := 1) hx hb dX0_peek_51 (by decide) ?_
            refine lv_ishr hx hb dX0_peek_52 ?_
            have f3 := fz_shr1 (p0 - 57344) (by omega)
            refine va_iald (D := (dC, dI)) hx hb hK hP 2 0 rfl rfl (vp_in_iff.mpr (by constructor <;> omega)) dX0_peek_53 ?_
            have hP9 := hP.sub (ws' := []) [] rfl
            have hD9 := hD.sub (ws' := []) [] (by decide) rfl
            have hK9 := hK.sub (tys' := []) [] rfl
            exact W.iret (v := 0) hx hb hr (fun t ht hW => ⟨⟨0, (), rfl, (by first | (exact dv_pos (by omega)) | (exact dv_zero (by omega) (by omega)) | (exact dv_neg (by omega) (by omega))), by rw [ht]; exact hP9, va_K.moved hW.alike hK9, hD9⟩, hS.F ht⟩) hS.2.2 dX0_peek_54
      · have c17 := fz_nle.mp c17
        have kk1024 : (1024 : Int32).toInt = 1024 := by decide
        exact False.elim (by omega)
  · have c1 := fz_ne.mp c1
    have kk0 : (0 : Int32).toInt = 0 := by decide
    refine lv_iconst (v := (-1)) hx hb dX0_peek_6 (by decide) ?_
    have hP9 := hP.sub (ws' := []) [] rfl
    have hD9 := hD.sub (ws' := []) [] (by decide) rfl
    have hK9 := hK.sub (tys' := []) [] rfl
    exact W.iret (v := (-1)) hx hb hr (fun t ht hW => ⟨⟨(-1), (), rfl, (by first | (exact dv_pos (by omega)) | (exact dv_zero (by omega) (by omega)) | (exact dv_neg (by omega) (by omega))), by rw [ht]; exact hP9, va_K.moved hW.alike hK9, hD9⟩, hS.F ht⟩) hS.2.2 dX0_peek_7
set_option maxHeartbeats 4000000 in
set_option maxRecDepth 100000 in
theorem c_device (l : Launch) (dC : Nat → ClassId) (dI : Nat → Nat → Nat) (h0 : Nat) (oB : Nat) (oP : Nat) (am : Nat) (oM : Nat) (oS : Nat) (oK : Nat) (oL : Nat) (oD : Nat) (ad : Nat) (ab : Nat) (td : ClassId) (tb : ClassId) (ap : Nat) (aw : Nat) (p0 : Int32) (sz : Nat) : Met l yX8_device wsX8_device ({ frames := 1, cells := 0, slots := 0, locals := 21 } : Room) (va_Pc [.ref h0, .int p0] (fun U => U.heap.size = sz ∧ va_P (dC, dI) vwCl [(h0, .inr (7, [.ref oB, .ref oP])), (oB, .inr (0, [.ref am, .ref oM, .ref oS, .ref oK, .ref oL, .ref oD])), (oM, .inr (3, [.ref ad, .ref ab, .int 0])), (ad, .inl (td, 16, .inl (fun _ => 0))), (ab, .inl (tb, 16, .inl (fun _ => 0))), (oS, .inr (6, [.int 0, .int (-1)])), (oK, .inr (2, [.int 0, .int 0, .int 0])), (oL, .inr (4, [.int 128, .int 0, .ref ap, .int 0, .int 0, .int 0, .int 0])), (oD, .inr (1, [.int 128, .int 0, .ref aw, .int 0, .int 0, .int 0, .int 0, .int 0, .int 0, .int 0]))] U.heap ∧ va_K (dC, dI) vwCl [(td, .int), (tb, .int)] U ∧ va_D (fun _ => True) [(h0, .inr (7, [.ref oB, .ref oP])), (oB, .inr (0, [.ref am, .ref oM, .ref oS, .ref oK, .ref oL, .ref oD])), (oM, .inr (3, [.ref ad, .ref ab, .int 0])), (ad, .inl (td, 16, .inl (fun _ => 0))), (ab, .inl (tb, 16, .inl (fun _ => 0))), (oS, .inr (6, [.int 0, .int (-1)])), (oK, .inr (2, [.int 0, .int 0, .int 0])), (oL, .inr (4, [.int 128, .int 0, .ref ap, .int 0, .int 0, .int 0, .int 0])), (oD, .inr (1, [.int 128, .int 0, .ref aw, .int 0, .int 0, .int 0, .int 0, .int 0, .int 0, .int 0]))])) (va_Qi (fun (r : Int32) (u : Unit) => r = dv p0.toInt) (fun (u : Unit) (t : State) => va_P (dC, dI) vwCl [] t.heap ∧ va_K (dC, dI) vwCl [] t ∧ va_D (va_A [(h0, .inr (7, [.ref oB, .ref oP])), (oB, .inr (0, [.ref am, .ref oM, .ref oS, .ref oK, .ref oL, .ref oD])), (oM, .inr (3, [.ref ad, .ref ab, .int 0])), (ad, .inl (td, 16, .inl (fun _ => 0))), (ab, .inl (tb, 16, .inl (fun _ => 0))), (oS, .inr (6, [.int 0, .int (-1)])), (oK, .inr (2, [.int 0, .int 0, .int 0])), (oL, .inr (4, [.int 128, .int 0, .ref ap, .int 0, .int 0, .int 0, .int 0])), (oD, .inr (1, [.int 128, .int 0, .ref aw, .int 0, .int 0, .int 0, .int 0, .int 0, .int 0, .int 0]))] sz) []) (va_A [(h0, .inr (7, [.ref oB, .ref oP])), (oB, .inr (0, [.ref am, .ref oM, .ref oS, .ref oK, .ref oL, .ref oD])), (oM, .inr (3, [.ref ad, .ref ab, .int 0])), (ad, .inl (td, 16, .inl (fun _ => 0))), (ab, .inl (tb, 16, .inl (fun _ => 0))), (oS, .inr (6, [.int 0, .int (-1)])), (oK, .inr (2, [.int 0, .int 0, .int 0])), (oL, .inr (4, [.int 128, .int 0, .ref ap, .int 0, .int 0, .int 0, .int 0])), (oD, .inr (1, [.int 128, .int 0, .ref aw, .int 0, .int 0, .int 0, .int 0, .int 0, .int 0, .int 0]))] sz)) 0 0 (va_A [(h0, .inr (7, [.ref oB, .ref oP])), (oB, .inr (0, [.ref am, .ref oM, .ref oS, .ref oK, .ref oL, .ref oD])), (oM, .inr (3, [.ref ad, .ref ab, .int 0])), (ad, .inl (td, 16, .inl (fun _ => 0))), (ab, .inl (tb, 16, .inl (fun _ => 0))), (oS, .inr (6, [.int 0, .int (-1)])), (oK, .inr (2, [.int 0, .int 0, .int 0])), (oL, .inr (4, [.int 128, .int 0, .ref ap, .int 0, .int 0, .int 0, .int 0])), (oD, .inr (1, [.int 128, .int 0, .ref aw, .int 0, .int 0, .int 0, .int 0, .int 0, .int 0, .int 0]))] sz) := by
  refine Met.ofW (cc := cX8_device) (maxL := 2) (ret := (some .int)) (by decide) rfl ?_
  intro p e s m args below meth c s₁ B hml hv
  obtain ⟨rfl, hsz, hP, hK, hD0⟩ := hv
  have hx := B.exec
  have hb := B.bytes
  have hr := B.returns
  have hts := atoms_spec (ws := wsX8_device) B.pre
  have hown : s.vm.findClass RX8 = some m.cls := findClass_of_methodNamed B.named
  have hlocks := B.notSynchronized
  subst hsz
  have hD := hD0.self (sz := s.heap.size)
  generalize hAe : va_A [(h0, .inr (7, [.ref oB, .ref oP])), (oB, .inr (0, [.ref am, .ref oM, .ref oS, .ref oK, .ref oL, .ref oD])), (oM, .inr (3, [.ref ad, .ref ab, .int 0])), (ad, .inl (td, 16, .inl (fun _ => 0))), (ab, .inl (tb, 16, .inl (fun _ => 0))), (oS, .inr (6, [.int 0, .int (-1)])), (oK, .inr (2, [.int 0, .int 0, .int 0])), (oL, .inr (4, [.int 128, .int 0, .ref ap, .int 0, .int 0, .int 0, .int 0])), (oD, .inr (1, [.int 128, .int 0, .ref aw, .int 0, .int 0, .int 0, .int 0, .int 0, .int 0, .int 0]))] s.heap.size = A at hD ⊢
  have hA : ∀ q : Nat, s.heap.size ≤ q → A q := fun q h => by rw [← hAe]; exact Or.inr h
  have hS0 : ∀ G : Heap, s.heap = G → va_S A s.heap G [] := fun G h => by subst h; exact va_S.rf
  generalize hHe : s.heap = H at hP ⊢
  have hS := hS0 H hHe
  have hP : va_P (dC, dI) vwCl [(h0, .inr (7, [.ref oB, .ref oP])), (oB, .inr (0, [.ref am, .ref oM, .ref oS, .ref oK, .ref oL, .ref oD])), (oM, .inr (3, [.ref ad, .ref ab, .int 0])), (ad, .inl (td, 16, .inl (fun _ => 0))), (ab, .inl (tb, 16, .inl (fun _ => 0))), (oS, .inr (6, [.int 0, .int (-1)])), (oK, .inr (2, [.int 0, .int 0, .int 0])), (oL, .inr (4, [.int 128, .int 0, .ref ap, .int 0, .int 0, .int 0, .int 0])), (oD, .inr (1, [.int 128, .int 0, .ref aw, .int 0, .int 0, .int 0, .int 0, .int 0, .int 0, .int 0]))] H := hP
  have hD : va_D A [(h0, .inr (7, [.ref oB, .ref oP])), (oB, .inr (0, [.ref am, .ref oM, .ref oS, .ref oK, .ref oL, .ref oD])), (oM, .inr (3, [.ref ad, .ref ab, .int 0])), (ad, .inl (td, 16, .inl (fun _ => 0))), (ab, .inl (tb, 16, .inl (fun _ => 0))), (oS, .inr (6, [.int 0, .int (-1)])), (oK, .inr (2, [.int 0, .int 0, .int 0])), (oL, .inr (4, [.int 128, .int 0, .ref ap, .int 0, .int 0, .int 0, .int 0])), (oD, .inr (1, [.int 128, .int 0, .ref aw, .int 0, .int 0, .int 0, .int 0, .int 0, .int 0, .int 0]))] := hD
  have hK : va_K (dC, dI) vwCl [(td, .int), (tb, .int)] s := hK
  have hl := lv_entry ([.ref h0, .int p0]) (n := 2) (Nat.le_of_ble_eq_true rfl)
  rw [lg_entry_eq]
  generalize (lg_sl ([.ref h0, .int p0]) ++ List.replicate (2 - (lg_sl ([.ref h0, .int p0])).length) Slot.unset).toArray = ls at hl ⊢
  have hl : lv_has ls 2 [(0, .ref h0), (1, .int p0)] := hl
  have kk57344 : (57344 : Int32).toInt = 57344 := by decide
  refine lv_iload_n hx hb dX8_device_0 rfl (lv_at hl 1 rfl) ?_
  refine lv_ldc (v := 57344) hx hb hown (hts (.constant RX8 119 (57344)) (by decide +kernel)) dX8_device_1 ?_
  refine lv_icmp_ge (tgt := 10) hx hb dX8_device_3 (by decide) (fun c1 => ?_) (fun c1 => ?_)
  · have c1 := fz_le.mp c1
    have kk57344 : (57344 : Int32).toInt = 57344 := by decide
    refine lv_aload_n hx hb dX8_device_10 rfl (lv_at hl 0 rfl) ?_
    refine va_get (D := (dC, dI)) (ci := 7) (v := .ref oB) (C := RX8) (T := TX8) (N := 2) hx hb hts (by decide +kernel) hown hK hP 0 rfl rfl 0 (by decide) (hts (.fieldLink RX8 10 "UnibusMachine" "bus" "LUnibusMachine$Bus;") (by decide +kernel)) (fun _ h9 => h9) rfl dX8_device_11 ?_
    refine lv_iload_n hx hb dX8_device_14 rfl (lv_at hl 1 rfl) ?_
    have hPc := hP.sub (ws' := [(oB, .inr (0, [.ref am, .ref oM, .ref oS, .ref oK, .ref oL, .ref oD])), (oM, .inr (3, [.ref ad, .ref ab, .int 0])), (ad, .inl (td, 16, .inl (fun _ => 0))), (ab, .inl (tb, 16, .inl (fun _ => 0))), (oS, .inr (6, [.int 0, .int (-1)])), (oK, .inr (2, [.int 0, .int 0, .int 0])), (oL, .inr (4, [.int 128, .int 0, .ref ap, .int 0, .int 0, .int 0, .int 0])), (oD, .inr (1, [.int 128, .int 0, .ref aw, .int 0, .int 0, .int 0, .int 0, .int 0, .int 0, .int 0]))]) [1, 2, 3, 4, 5, 6, 7, 8] rfl
    have hDc := hD.sub (ws' := [(oB, .inr (0, [.ref am, .ref oM, .ref oS, .ref oK, .ref oL, .ref oD])), (oM, .inr (3, [.ref ad, .ref ab, .int 0])), (ad, .inl (td, 16, .inl (fun _ => 0))), (ab, .inl (tb, 16, .inl (fun _ => 0))), (oS, .inr (6, [.int 0, .int (-1)])), (oK, .inr (2, [.int 0, .int 0, .int 0])), (oL, .inr (4, [.int 128, .int 0, .ref ap, .int 0, .int 0, .int 0, .int 0])), (oD, .inr (1, [.int 128, .int 0, .ref aw, .int 0, .int 0, .int 0, .int 0, .int 0, .int 0, .int 0]))]) [1, 2, 3, 4, 5, 6, 7, 8] (by decide) rfl
    have hKc := hK.sub (tys' := [(td, .int), (tb, .int)]) [0, 1] rfl
    have hFc := va_free (wc := [(oB, .inr (0, [.ref am, .ref oM, .ref oS, .ref oK, .ref oL, .ref oD])), (oM, .inr (3, [.ref ad, .ref ab, .int 0])), (ad, .inl (td, 16, .inl (fun _ => 0))), (ab, .inl (tb, 16, .inl (fun _ => 0))), (oS, .inr (6, [.int 0, .int (-1)])), (oK, .inr (2, [.int 0, .int 0, .int 0])), (oL, .inr (4, [.int 128, .int 0, .ref ap, .int 0, .int 0, .int 0, .int 0])), (oD, .inr (1, [.int 128, .int 0, .ref aw, .int 0, .int 0, .int 0, .int 0, .int 0, .int 0, .int 0]))]) hD hS hA [1, 2, 3, 4, 5, 6, 7, 8] rfl
    refine va_calli (va_runV (As := [.int p0]) (rest := []) ⟨hx, hb, hml, hown, hts⟩ (c_peek l dC dI oB am oM oS oK oL oD ad ab td tb ap aw p0 H.size (by omega)) (cwV 1 hts gX8_device_X0_peek rfl rfl rfl (by decide +kernel) ⟨Nat.le_of_ble_eq_true rfl, Nat.le_of_ble_eq_true rfl⟩) ⟨fun a U g mk q => by obtain ⟨q0, q1, qP, qK, qD⟩ := q; exact ⟨q0, q1, qP, va_K.moved (u := U) (U := U.calling g mk a) (Vm.Alike.refl U.vm) qK, qD⟩, va_recv hKc hPc (ci := 0) (q0 := 0) rfl rfl, fun U hU hW => ⟨rfl, by rw [hU], by rw [hU]; exact hPc, va_K.moved hW.alike hKc, hDc.weaken (fun _ _ _ _ => trivial)⟩⟩ rfl rfl hl.1 rfl (lv_room (Nat.le_of_ble_eq_true rfl)) dX8_device_15 ⟨Nat.le_of_ble_eq_true rfl, Nat.le_of_ble_eq_true rfl⟩) hS (fun q _ h => hFc q h) hFc (fun r2 u3 t H1 locs ht hvm hw hB hz1 hk1 hS => ?_)
    obtain ⟨hP1, hK1, hD1⟩ := hB
    rw [ht] at hP1
    have hK1 := va_K.moved hvm.symm hK1
    try dsimp only at hw
    obtain ⟨hP, hD⟩ := va_join (wr := [(h0, .inr (7, [.ref oB, .ref oP]))]) (w1 := []) hP hD [1, 2, 3, 4, 5, 6, 7, 8] [0] rfl rfl (by decide) (by decide) hk1 hFc hP1 hD1
    have hK := (hK.sub (tys' := []) [] rfl).app hK1
    generalize H1 = H at hP hS ⊢
    have hP : va_P (dC, dI) vwCl [(h0, .inr (7, [.ref oB, .ref oP]))] H := hP
    have hD : va_D A [(h0, .inr (7, [.ref oB, .ref oP]))] := hD
    have hK : va_K (dC, dI) vwCl [] s := hK
    have hP9 := hP.sub (ws' := []) [] rfl
    have hD9 := hD.sub (ws' := []) [] (by decide) rfl
    have hK9 := hK.sub (tys' := []) [] rfl
    exact W.iret (v := r2) hx hb hr (fun t ht hW => ⟨⟨r2, (), rfl, hw, by rw [ht]; exact hP9, va_K.moved hW.alike hK9, hD9⟩, hS.F ht⟩) hS.2.2 dX8_device_18
  · have c1 := fz_nle.mp c1
    have kk57344 : (57344 : Int32).toInt = 57344 := by decide
    refine lv_iconst (v := (-1)) hx hb dX8_device_6 (by decide) ?_
    refine lv_goto (tgt := 18) hx hb dX8_device_7 (by decide) ?_
    have hP9 := hP.sub (ws' := []) [] rfl
    have hD9 := hD.sub (ws' := []) [] (by decide) rfl
    have hK9 := hK.sub (tys' := []) [] rfl
    exact W.iret (v := (-1)) hx hb hr (fun t ht hW => ⟨⟨(-1), (), rfl, (by first | (exact dv_pos (by omega)) | (exact dv_zero (by omega) (by omega)) | (exact dv_neg (by omega) (by omega))), by rw [ht]; exact hP9, va_K.moved hW.alike hK9, hD9⟩, hS.F ht⟩) hS.2.2 dX8_device_18
set_option maxHeartbeats 4000000 in
set_option maxRecDepth 100000 in
theorem c_state (l : Launch) (dC : Nat → ClassId) (dI : Nat → Nat → Nat) (h0 : Nat) (oB : Nat) (oP : Nat) (oS : Nat) (ar : Nat) (sz : Nat) : Met l yX8_state wsX8_state ({ frames := 0, cells := 0, slots := 0, locals := 0 } : Room) (va_Pc [.ref h0] (fun U => U.heap.size = sz ∧ va_P (dC, dI) vwCl [(h0, .inr (7, [.ref oB, .ref oP])), (oP, .inr (5, [.ref ar, .ref oB, .ref oS, .int 0, .int 2, .int 0, .int 0, .int 0, .int 0]))] U.heap ∧ va_K (dC, dI) vwCl [] U ∧ va_D (fun _ => True) [(h0, .inr (7, [.ref oB, .ref oP])), (oP, .inr (5, [.ref ar, .ref oB, .ref oS, .int 0, .int 2, .int 0, .int 0, .int 0, .int 0]))])) (va_Qi (fun (r : Int32) (u : Unit) => r = 2) (fun (u : Unit) (t : State) => va_P (dC, dI) vwCl [] t.heap ∧ va_K (dC, dI) vwCl [] t ∧ va_D (va_A [(h0, .inr (7, [.ref oB, .ref oP])), (oP, .inr (5, [.ref ar, .ref oB, .ref oS, .int 0, .int 2, .int 0, .int 0, .int 0, .int 0]))] sz) []) (va_A [(h0, .inr (7, [.ref oB, .ref oP])), (oP, .inr (5, [.ref ar, .ref oB, .ref oS, .int 0, .int 2, .int 0, .int 0, .int 0, .int 0]))] sz)) 0 0 (va_A [(h0, .inr (7, [.ref oB, .ref oP])), (oP, .inr (5, [.ref ar, .ref oB, .ref oS, .int 0, .int 2, .int 0, .int 0, .int 0, .int 0]))] sz) := by
  refine Met.ofW (cc := cX8_state) (maxL := 1) (ret := (some .int)) (by decide) rfl ?_
  intro p e s m args below meth c s₁ B hml hv
  obtain ⟨rfl, hsz, hP, hK, hD0⟩ := hv
  have hx := B.exec
  have hb := B.bytes
  have hr := B.returns
  have hts := atoms_spec (ws := wsX8_state) B.pre
  have hown : s.vm.findClass RX8 = some m.cls := findClass_of_methodNamed B.named
  have hlocks := B.notSynchronized
  subst hsz
  have hD := hD0.self (sz := s.heap.size)
  generalize hAe : va_A [(h0, .inr (7, [.ref oB, .ref oP])), (oP, .inr (5, [.ref ar, .ref oB, .ref oS, .int 0, .int 2, .int 0, .int 0, .int 0, .int 0]))] s.heap.size = A at hD ⊢
  have hA : ∀ q : Nat, s.heap.size ≤ q → A q := fun q h => by rw [← hAe]; exact Or.inr h
  have hS0 : ∀ G : Heap, s.heap = G → va_S A s.heap G [] := fun G h => by subst h; exact va_S.rf
  generalize hHe : s.heap = H at hP ⊢
  have hS := hS0 H hHe
  have hP : va_P (dC, dI) vwCl [(h0, .inr (7, [.ref oB, .ref oP])), (oP, .inr (5, [.ref ar, .ref oB, .ref oS, .int 0, .int 2, .int 0, .int 0, .int 0, .int 0]))] H := hP
  have hD : va_D A [(h0, .inr (7, [.ref oB, .ref oP])), (oP, .inr (5, [.ref ar, .ref oB, .ref oS, .int 0, .int 2, .int 0, .int 0, .int 0, .int 0]))] := hD
  have hK : va_K (dC, dI) vwCl [] s := hK
  have hl := lv_entry ([.ref h0]) (n := 1) (Nat.le_of_ble_eq_true rfl)
  rw [lg_entry_eq]
  generalize (lg_sl ([.ref h0]) ++ List.replicate (1 - (lg_sl ([.ref h0])).length) Slot.unset).toArray = ls at hl ⊢
  have hl : lv_has ls 1 [(0, .ref h0)] := hl
  refine lv_aload_n hx hb dX8_state_0 rfl (lv_at hl 0 rfl) ?_
  refine va_get (D := (dC, dI)) (ci := 7) (v := .ref oP) (C := RX8) (T := TX8) (N := 2) hx hb hts (by decide +kernel) hown hK hP 0 rfl rfl 1 (by decide) (hts (.fieldLink RX8 21 "UnibusMachine" "processor" "LUnibusMachine$Processor;") (by decide +kernel)) (fun _ h9 => h9) rfl dX8_state_1 ?_
  refine va_get (D := (dC, dI)) (ci := 5) (v := .int 2) (C := RX6) (T := TX6) (N := 9) hx hb hts (by decide +kernel) hown hK hP 1 rfl rfl 4 (by decide) (hts (.fieldLink RX8 63 "UnibusMachine$Processor" "halted" "I") (by decide +kernel)) (fun _ h9 => h9) rfl dX8_state_4 ?_
  refine lv_if_eq (tgt := 18) hx hb dX8_state_7 (by decide) (fun c1 => ?_) (fun c1 => ?_)
  · exact absurd c1 (by decide)
  · skip
    refine lv_aload_n hx hb dX8_state_10 rfl (lv_at hl 0 rfl) ?_
    refine va_get (D := (dC, dI)) (ci := 7) (v := .ref oP) (C := RX8) (T := TX8) (N := 2) hx hb hts (by decide +kernel) hown hK hP 0 rfl rfl 1 (by decide) (hts (.fieldLink RX8 21 "UnibusMachine" "processor" "LUnibusMachine$Processor;") (by decide +kernel)) (fun _ h9 => h9) rfl dX8_state_11 ?_
    refine va_get (D := (dC, dI)) (ci := 5) (v := .int 2) (C := RX6) (T := TX6) (N := 9) hx hb hts (by decide +kernel) hown hK hP 1 rfl rfl 4 (by decide) (hts (.fieldLink RX8 63 "UnibusMachine$Processor" "halted" "I") (by decide +kernel)) (fun _ h9 => h9) rfl dX8_state_14 ?_
    have hP9 := hP.sub (ws' := []) [] rfl
    have hD9 := hD.sub (ws' := []) [] (by decide) rfl
    have hK9 := hK.sub (tys' := []) [] rfl
    exact W.iret (v := 2) hx hb hr (fun t ht hW => ⟨⟨2, (), rfl, rfl, by rw [ht]; exact hP9, va_K.moved hW.alike hK9, hD9⟩, hS.F ht⟩) hS.2.2 dX8_state_17
