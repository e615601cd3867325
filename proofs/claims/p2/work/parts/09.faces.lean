set_option maxHeartbeats 4000000 in
set_option maxRecDepth 100000 in
theorem c_f_isMemory4 (l : Launch) (dC : Nat → ClassId) (dI : Nat → Nat → Nat)  (sz : Nat) : Met l yX8_isMemory wsX8_isMemory ({ frames := 0, cells := 0, slots := 0, locals := 0 } : Room) (va_Pc [.int 4] (fun U => U.heap.size = sz ∧ va_P (dC, dI) vwCl [] U.heap ∧ va_K (dC, dI) vwCl [] U ∧ va_D (fun _ => True) [])) (va_Qi (fun (r : Int32) (u : Unit) => (1 = r)) (fun (u : Unit) (t : State) => va_P (dC, dI) vwCl [] t.heap ∧ va_K (dC, dI) vwCl [] t ∧ va_D (va_A [] sz) []) (va_A [] sz)) 0 0 (va_A [] sz) := by
  refine Met.ofW (cc := cX8_isMemory) (maxL := 1) (ret := (some .boolean)) (by decide) rfl ?_
  intro p e s m args below meth c s₁ B hml hv
  obtain ⟨rfl, hsz, hP, hK, hD0⟩ := hv
  have hx := B.exec
  have hb := B.bytes
  have hr := B.returns
  have hts := atoms_spec (ws := wsX8_isMemory) B.pre
  have hown : s.vm.findClass RX8 = some m.cls := findClass_of_methodNamed B.named
  have hlocks := B.notSynchronized
  have hD := hD0.self (sz := sz)
  generalize hAe : va_A [] sz = A at hD ⊢
  have hA : ∀ q : Nat, s.heap.size ≤ q → A q := fun q h => by rw [← hAe]; exact Or.inr (by omega)
  have hS0 : ∀ G : Heap, s.heap = G → va_S A s.heap G [] := fun G h => by subst h; exact va_S.rf
  generalize hHe : s.heap = H at hP ⊢
  have hS := hS0 H hHe
  have hP : va_P (dC, dI) vwCl [] H := hP
  have hD : va_D A [] := hD
  have hK : va_K (dC, dI) vwCl [] s := hK
  have hl := lv_entry ([.int 4]) (n := 1) (Nat.le_of_ble_eq_true rfl)
  rw [lg_entry_eq]
  generalize (lg_sl ([.int 4]) ++ List.replicate (1 - (lg_sl ([.int 4])).length) Slot.unset).toArray = ls at hl ⊢
  have hl : lv_has ls 1 [(0, .int 4)] := hl
  refine lv_iload_n hx hb dX8_isMemory_0 rfl (lv_at hl 0 rfl) ?_
  refine lv_if_lt (tgt := 21) hx hb dX8_isMemory_1 (by decide) (fun c1 => ?_) (fun c1 => ?_)
  · exact absurd c1 (by decide)
  · skip
    refine lv_iload_n hx hb dX8_isMemory_4 rfl (lv_at hl 0 rfl) ?_
    refine lv_sipush (v := 1024) hx hb dX8_isMemory_5 (by decide) ?_
    refine lv_icmp_ge (tgt := 21) hx hb dX8_isMemory_8 (by decide) (fun c2 => ?_) (fun c2 => ?_)
    · exact absurd c2 (by decide)
    · skip
      refine lv_iload_n hx hb dX8_isMemory_11 rfl (lv_at hl 0 rfl) ?_
      refine lv_iconst (v := 1) hx hb dX8_isMemory_12 (by decide) ?_
      refine lv_iand hx hb dX8_isMemory_13 ?_
      refine lv_topi (fun y3 ey3 => ?_)
      obtain rfl : y3 = 0 := by rw [ey3]; decide
      refine lv_if_ne (tgt := 21) hx hb dX8_isMemory_14 (by decide) (fun c4 => ?_) (fun c4 => ?_)
      · exact absurd c4 (by decide)
      · skip
        refine lv_iconst (v := 1) hx hb dX8_isMemory_17 (by decide) ?_
        refine lv_goto (tgt := 22) hx hb dX8_isMemory_18 (by decide) ?_
        have hP9 := hP.sub (ws' := []) [] rfl
        have hD9 := hD.sub (ws' := []) [] (by decide) rfl
        have hK9 := hK.sub (tys' := []) [] rfl
        exact W.zret (v := 1) hx hb hr (by decide) (fun t ht hW => ⟨⟨1, (), rfl, rfl, by rw [ht]; exact hP9, va_K.moved hW.alike hK9, hD9⟩, hS.F ht⟩) hS.2.2 dX8_isMemory_22
set_option maxHeartbeats 4000000 in
set_option maxRecDepth 100000 in
theorem c_f_isMemory6 (l : Launch) (dC : Nat → ClassId) (dI : Nat → Nat → Nat)  (sz : Nat) : Met l yX8_isMemory wsX8_isMemory ({ frames := 0, cells := 0, slots := 0, locals := 0 } : Room) (va_Pc [.int 6] (fun U => U.heap.size = sz ∧ va_P (dC, dI) vwCl [] U.heap ∧ va_K (dC, dI) vwCl [] U ∧ va_D (fun _ => True) [])) (va_Qi (fun (r : Int32) (u : Unit) => (1 = r)) (fun (u : Unit) (t : State) => va_P (dC, dI) vwCl [] t.heap ∧ va_K (dC, dI) vwCl [] t ∧ va_D (va_A [] sz) []) (va_A [] sz)) 0 0 (va_A [] sz) := by
  refine Met.ofW (cc := cX8_isMemory) (maxL := 1) (ret := (some .boolean)) (by decide) rfl ?_
  intro p e s m args below meth c s₁ B hml hv
  obtain ⟨rfl, hsz, hP, hK, hD0⟩ := hv
  have hx := B.exec
  have hb := B.bytes
  have hr := B.returns
  have hts := atoms_spec (ws := wsX8_isMemory) B.pre
  have hown : s.vm.findClass RX8 = some m.cls := findClass_of_methodNamed B.named
  have hlocks := B.notSynchronized
  have hD := hD0.self (sz := sz)
  generalize hAe : va_A [] sz = A at hD ⊢
  have hA : ∀ q : Nat, s.heap.size ≤ q → A q := fun q h => by rw [← hAe]; exact Or.inr (by omega)
  have hS0 : ∀ G : Heap, s.heap = G → va_S A s.heap G [] := fun G h => by subst h; exact va_S.rf
  generalize hHe : s.heap = H at hP ⊢
  have hS := hS0 H hHe
  have hP : va_P (dC, dI) vwCl [] H := hP
  have hD : va_D A [] := hD
  have hK : va_K (dC, dI) vwCl [] s := hK
  have hl := lv_entry ([.int 6]) (n := 1) (Nat.le_of_ble_eq_true rfl)
  rw [lg_entry_eq]
  generalize (lg_sl ([.int 6]) ++ List.replicate (1 - (lg_sl ([.int 6])).length) Slot.unset).toArray = ls at hl ⊢
  have hl : lv_has ls 1 [(0, .int 6)] := hl
  refine lv_iload_n hx hb dX8_isMemory_0 rfl (lv_at hl 0 rfl) ?_
  refine lv_if_lt (tgt := 21) hx hb dX8_isMemory_1 (by decide) (fun c1 => ?_) (fun c1 => ?_)
  · exact absurd c1 (by decide)
  · skip
    refine lv_iload_n hx hb dX8_isMemory_4 rfl (lv_at hl 0 rfl) ?_
    refine lv_sipush (v := 1024) hx hb dX8_isMemory_5 (by decide) ?_
    refine lv_icmp_ge (tgt := 21) hx hb dX8_isMemory_8 (by decide) (fun c2 => ?_) (fun c2 => ?_)
    · exact absurd c2 (by decide)
    · skip
      refine lv_iload_n hx hb dX8_isMemory_11 rfl (lv_at hl 0 rfl) ?_
      refine lv_iconst (v := 1) hx hb dX8_isMemory_12 (by decide) ?_
      refine lv_iand hx hb dX8_isMemory_13 ?_
      refine lv_topi (fun y3 ey3 => ?_)
      obtain rfl : y3 = 0 := by rw [ey3]; decide
      refine lv_if_ne (tgt := 21) hx hb dX8_isMemory_14 (by decide) (fun c4 => ?_) (fun c4 => ?_)
      · exact absurd c4 (by decide)
      · skip
        refine lv_iconst (v := 1) hx hb dX8_isMemory_17 (by decide) ?_
        refine lv_goto (tgt := 22) hx hb dX8_isMemory_18 (by decide) ?_
        have hP9 := hP.sub (ws' := []) [] rfl
        have hD9 := hD.sub (ws' := []) [] (by decide) rfl
        have hK9 := hK.sub (tys' := []) [] rfl
        exact W.zret (v := 1) hx hb hr (by decide) (fun t ht hW => ⟨⟨1, (), rfl, rfl, by rw [ht]; exact hP9, va_K.moved hW.alike hK9, hD9⟩, hS.F ht⟩) hS.2.2 dX8_isMemory_22
set_option maxHeartbeats 4000000 in
set_option maxRecDepth 100000 in
theorem c_f_isWord1 (l : Launch) (dC : Nat → ClassId) (dI : Nat → Nat → Nat)  (sz : Nat) : Met l yX8_isWord wsX8_isWord ({ frames := 0, cells := 0, slots := 0, locals := 0 } : Room) (va_Pc [.int 1] (fun U => U.heap.size = sz ∧ va_P (dC, dI) vwCl [] U.heap ∧ va_K (dC, dI) vwCl [] U ∧ va_D (fun _ => True) [])) (va_Qi (fun (r : Int32) (u : Unit) => (1 = r)) (fun (u : Unit) (t : State) => va_P (dC, dI) vwCl [] t.heap ∧ va_K (dC, dI) vwCl [] t ∧ va_D (va_A [] sz) []) (va_A [] sz)) 0 0 (va_A [] sz) := by
  refine Met.ofW (cc := cX8_isWord) (maxL := 1) (ret := (some .boolean)) (by decide) rfl ?_
  intro p e s m args below meth c s₁ B hml hv
  obtain ⟨rfl, hsz, hP, hK, hD0⟩ := hv
  have hx := B.exec
  have hb := B.bytes
  have hr := B.returns
  have hts := atoms_spec (ws := wsX8_isWord) B.pre
  have hown : s.vm.findClass RX8 = some m.cls := findClass_of_methodNamed B.named
  have hlocks := B.notSynchronized
  have hD := hD0.self (sz := sz)
  generalize hAe : va_A [] sz = A at hD ⊢
  have hA : ∀ q : Nat, s.heap.size ≤ q → A q := fun q h => by rw [← hAe]; exact Or.inr (by omega)
  have hS0 : ∀ G : Heap, s.heap = G → va_S A s.heap G [] := fun G h => by subst h; exact va_S.rf
  generalize hHe : s.heap = H at hP ⊢
  have hS := hS0 H hHe
  have hP : va_P (dC, dI) vwCl [] H := hP
  have hD : va_D A [] := hD
  have hK : va_K (dC, dI) vwCl [] s := hK
  have hl := lv_entry ([.int 1]) (n := 1) (Nat.le_of_ble_eq_true rfl)
  rw [lg_entry_eq]
  generalize (lg_sl ([.int 1]) ++ List.replicate (1 - (lg_sl ([.int 1])).length) Slot.unset).toArray = ls at hl ⊢
  have hl : lv_has ls 1 [(0, .int 1)] := hl
  refine lv_iload_n hx hb dX8_isWord_0 rfl (lv_at hl 0 rfl) ?_
  refine lv_if_lt (tgt := 14) hx hb dX8_isWord_1 (by decide) (fun c1 => ?_) (fun c1 => ?_)
  · exact absurd c1 (by decide)
  · skip
    refine lv_iload_n hx hb dX8_isWord_4 rfl (lv_at hl 0 rfl) ?_
    refine lv_ldc (v := 65535) hx hb hown (hts (.constant RX8 124 (65535)) (by decide +kernel)) dX8_isWord_5 ?_
    refine lv_icmp_gt (tgt := 14) hx hb dX8_isWord_7 (by decide) (fun c2 => ?_) (fun c2 => ?_)
    · exact absurd c2 (by decide)
    · skip
      refine lv_iconst (v := 1) hx hb dX8_isWord_10 (by decide) ?_
      refine lv_goto (tgt := 15) hx hb dX8_isWord_11 (by decide) ?_
      have hP9 := hP.sub (ws' := []) [] rfl
      have hD9 := hD.sub (ws' := []) [] (by decide) rfl
      have hK9 := hK.sub (tys' := []) [] rfl
      exact W.zret (v := 1) hx hb hr (by decide) (fun t ht hW => ⟨⟨1, (), rfl, rfl, by rw [ht]; exact hP9, va_K.moved hW.alike hK9, hD9⟩, hS.F ht⟩) hS.2.2 dX8_isWord_15
set_option maxHeartbeats 4000000 in
set_option maxRecDepth 100000 in
theorem c_f_isWord224 (l : Launch) (dC : Nat → ClassId) (dI : Nat → Nat → Nat)  (sz : Nat) : Met l yX8_isWord wsX8_isWord ({ frames := 0, cells := 0, slots := 0, locals := 0 } : Room) (va_Pc [.int 224] (fun U => U.heap.size = sz ∧ va_P (dC, dI) vwCl [] U.heap ∧ va_K (dC, dI) vwCl [] U ∧ va_D (fun _ => True) [])) (va_Qi (fun (r : Int32) (u : Unit) => (1 = r)) (fun (u : Unit) (t : State) => va_P (dC, dI) vwCl [] t.heap ∧ va_K (dC, dI) vwCl [] t ∧ va_D (va_A [] sz) []) (va_A [] sz)) 0 0 (va_A [] sz) := by
  refine Met.ofW (cc := cX8_isWord) (maxL := 1) (ret := (some .boolean)) (by decide) rfl ?_
  intro p e s m args below meth c s₁ B hml hv
  obtain ⟨rfl, hsz, hP, hK, hD0⟩ := hv
  have hx := B.exec
  have hb := B.bytes
  have hr := B.returns
  have hts := atoms_spec (ws := wsX8_isWord) B.pre
  have hown : s.vm.findClass RX8 = some m.cls := findClass_of_methodNamed B.named
  have hlocks := B.notSynchronized
  have hD := hD0.self (sz := sz)
  generalize hAe : va_A [] sz = A at hD ⊢
  have hA : ∀ q : Nat, s.heap.size ≤ q → A q := fun q h => by rw [← hAe]; exact Or.inr (by omega)
  have hS0 : ∀ G : Heap, s.heap = G → va_S A s.heap G [] := fun G h => by subst h; exact va_S.rf
  generalize hHe : s.heap = H at hP ⊢
  have hS := hS0 H hHe
  have hP : va_P (dC, dI) vwCl [] H := hP
  have hD : va_D A [] := hD
  have hK : va_K (dC, dI) vwCl [] s := hK
  have hl := lv_entry ([.int 224]) (n := 1) (Nat.le_of_ble_eq_true rfl)
  rw [lg_entry_eq]
  generalize (lg_sl ([.int 224]) ++ List.replicate (1 - (lg_sl ([.int 224])).length) Slot.unset).toArray = ls at hl ⊢
  have hl : lv_has ls 1 [(0, .int 224)] := hl
  refine lv_iload_n hx hb dX8_isWord_0 rfl (lv_at hl 0 rfl) ?_
  refine lv_if_lt (tgt := 14) hx hb dX8_isWord_1 (by decide) (fun c1 => ?_) (fun c1 => ?_)
  · exact absurd c1 (by decide)
  · skip
    refine lv_iload_n hx hb dX8_isWord_4 rfl (lv_at hl 0 rfl) ?_
    refine lv_ldc (v := 65535) hx hb hown (hts (.constant RX8 124 (65535)) (by decide +kernel)) dX8_isWord_5 ?_
    refine lv_icmp_gt (tgt := 14) hx hb dX8_isWord_7 (by decide) (fun c2 => ?_) (fun c2 => ?_)
    · exact absurd c2 (by decide)
    · skip
      refine lv_iconst (v := 1) hx hb dX8_isWord_10 (by decide) ?_
      refine lv_goto (tgt := 15) hx hb dX8_isWord_11 (by decide) ?_
      have hP9 := hP.sub (ws' := []) [] rfl
      have hD9 := hD.sub (ws' := []) [] (by decide) rfl
      have hK9 := hK.sub (tys' := []) [] rfl
      exact W.zret (v := 1) hx hb hr (by decide) (fun t ht hW => ⟨⟨1, (), rfl, rfl, by rw [ht]; exact hP9, va_K.moved hW.alike hK9, hD9⟩, hS.F ht⟩) hS.2.2 dX8_isWord_15
set_option maxHeartbeats 4000000 in
set_option maxRecDepth 100000 in
theorem c_f_isWord1024 (l : Launch) (dC : Nat → ClassId) (dI : Nat → Nat → Nat)  (sz : Nat) : Met l yX8_isWord wsX8_isWord ({ frames := 0, cells := 0, slots := 0, locals := 0 } : Room) (va_Pc [.int 1024] (fun U => U.heap.size = sz ∧ va_P (dC, dI) vwCl [] U.heap ∧ va_K (dC, dI) vwCl [] U ∧ va_D (fun _ => True) [])) (va_Qi (fun (r : Int32) (u : Unit) => (1 = r)) (fun (u : Unit) (t : State) => va_P (dC, dI) vwCl [] t.heap ∧ va_K (dC, dI) vwCl [] t ∧ va_D (va_A [] sz) []) (va_A [] sz)) 0 0 (va_A [] sz) := by
  refine Met.ofW (cc := cX8_isWord) (maxL := 1) (ret := (some .boolean)) (by decide) rfl ?_
  intro p e s m args below meth c s₁ B hml hv
  obtain ⟨rfl, hsz, hP, hK, hD0⟩ := hv
  have hx := B.exec
  have hb := B.bytes
  have hr := B.returns
  have hts := atoms_spec (ws := wsX8_isWord) B.pre
  have hown : s.vm.findClass RX8 = some m.cls := findClass_of_methodNamed B.named
  have hlocks := B.notSynchronized
  have hD := hD0.self (sz := sz)
  generalize hAe : va_A [] sz = A at hD ⊢
  have hA : ∀ q : Nat, s.heap.size ≤ q → A q := fun q h => by rw [← hAe]; exact Or.inr (by omega)
  have hS0 : ∀ G : Heap, s.heap = G → va_S A s.heap G [] := fun G h => by subst h; exact va_S.rf
  generalize hHe : s.heap = H at hP ⊢
  have hS := hS0 H hHe
  have hP : va_P (dC, dI) vwCl [] H := hP
  have hD : va_D A [] := hD
  have hK : va_K (dC, dI) vwCl [] s := hK
  have hl := lv_entry ([.int 1024]) (n := 1) (Nat.le_of_ble_eq_true rfl)
  rw [lg_entry_eq]
  generalize (lg_sl ([.int 1024]) ++ List.replicate (1 - (lg_sl ([.int 1024])).length) Slot.unset).toArray = ls at hl ⊢
  have hl : lv_has ls 1 [(0, .int 1024)] := hl
  refine lv_iload_n hx hb dX8_isWord_0 rfl (lv_at hl 0 rfl) ?_
  refine lv_if_lt (tgt := 14) hx hb dX8_isWord_1 (by decide) (fun c1 => ?_) (fun c1 => ?_)
  · exact absurd c1 (by decide)
  · skip
    refine lv_iload_n hx hb dX8_isWord_4 rfl (lv_at hl 0 rfl) ?_
    refine lv_ldc (v := 65535) hx hb hown (hts (.constant RX8 124 (65535)) (by decide +kernel)) dX8_isWord_5 ?_
    refine lv_icmp_gt (tgt := 14) hx hb dX8_isWord_7 (by decide) (fun c2 => ?_) (fun c2 => ?_)
    · exact absurd c2 (by decide)
    · skip
      refine lv_iconst (v := 1) hx hb dX8_isWord_10 (by decide) ?_
      refine lv_goto (tgt := 15) hx hb dX8_isWord_11 (by decide) ?_
      have hP9 := hP.sub (ws' := []) [] rfl
      have hD9 := hD.sub (ws' := []) [] (by decide) rfl
      have hK9 := hK.sub (tys' := []) [] rfl
      exact W.zret (v := 1) hx hb hr (by decide) (fun t ht hW => ⟨⟨1, (), rfl, rfl, by rw [ht]; exact hP9, va_K.moved hW.alike hK9, hD9⟩, hS.F ht⟩) hS.2.2 dX8_isWord_15
set_option maxHeartbeats 4000000 in
set_option maxRecDepth 100000 in
theorem c_f_deposit4 (l : Launch) (dC : Nat → ClassId) (dI : Nat → Nat → Nat) (h0 : Nat) (oB : Nat) (oP : Nat) (am : Nat) (oM : Nat) (oS : Nat) (oK : Nat) (oL : Nat) (oD : Nat) (tm : ClassId) (f : Nat → Int32) (sz : Nat) : Met l yX8_deposit wsX8_deposit ({ frames := 1, cells := 0, slots := 0, locals := 20 } : Room) (va_Pc [.ref h0, .int 4, .int 1] (fun U => U.heap.size = sz ∧ va_P (dC, dI) vwCl [(h0, .inr (7, [.ref oB, .ref oP])), (oB, .inr (0, [.ref am, .ref oM, .ref oS, .ref oK, .ref oL, .ref oD])), (am, .inl (tm, 512, .inl f))] U.heap ∧ va_K (dC, dI) vwCl [(tm, .int)] U ∧ va_D (fun _ => True) [(h0, .inr (7, [.ref oB, .ref oP])), (oB, .inr (0, [.ref am, .ref oM, .ref oS, .ref oK, .ref oL, .ref oD])), (am, .inl (tm, 512, .inl f))])) (va_Qv (fun (u : (Nat → Int32)) => (u (2 : Int32).toNatClampNeg = 1)) (fun (u : (Nat → Int32)) (t : State) => va_P (dC, dI) vwCl [(h0, .inr (7, [.ref oB, .ref oP])), (oB, .inr (0, [.ref am, .ref oM, .ref oS, .ref oK, .ref oL, .ref oD])), (am, .inl (tm, 512, .inl u))] t.heap ∧ va_K (dC, dI) vwCl [(tm, .int)] t ∧ va_D (va_A [(h0, .inr (7, [.ref oB, .ref oP])), (oB, .inr (0, [.ref am, .ref oM, .ref oS, .ref oK, .ref oL, .ref oD])), (am, .inl (tm, 512, .inl f))] sz) [(h0, .inr (7, [.ref oB, .ref oP])), (oB, .inr (0, [.ref am, .ref oM, .ref oS, .ref oK, .ref oL, .ref oD])), (am, .inl (tm, 512, .inl u))]) (va_A [(h0, .inr (7, [.ref oB, .ref oP])), (oB, .inr (0, [.ref am, .ref oM, .ref oS, .ref oK, .ref oL, .ref oD])), (am, .inl (tm, 512, .inl f))] sz)) 0 0 (va_A [(h0, .inr (7, [.ref oB, .ref oP])), (oB, .inr (0, [.ref am, .ref oM, .ref oS, .ref oK, .ref oL, .ref oD])), (am, .inl (tm, 512, .inl f))] sz) := by
  refine Met.ofW (cc := cX8_deposit) (maxL := 3) (ret := none) (by decide) rfl ?_
  intro p e s m args below meth c s₁ B hml hv
  obtain ⟨rfl, hsz, hP, hK, hD0⟩ := hv
  have hx := B.exec
  have hb := B.bytes
  have hr := B.returns
  have hts := atoms_spec (ws := wsX8_deposit) B.pre
  have hown : s.vm.findClass RX8 = some m.cls := findClass_of_methodNamed B.named
  have hlocks := B.notSynchronized
  have hD := hD0.self (sz := sz)
  generalize hAe : va_A [(h0, .inr (7, [.ref oB, .ref oP])), (oB, .inr (0, [.ref am, .ref oM, .ref oS, .ref oK, .ref oL, .ref oD])), (am, .inl (tm, 512, .inl f))] sz = A at hD ⊢
  have hA : ∀ q : Nat, s.heap.size ≤ q → A q := fun q h => by rw [← hAe]; exact Or.inr (by omega)
  have hS0 : ∀ G : Heap, s.heap = G → va_S A s.heap G [] := fun G h => by subst h; exact va_S.rf
  generalize hHe : s.heap = H at hP ⊢
  have hS := hS0 H hHe
  have hP : va_P (dC, dI) vwCl [(h0, .inr (7, [.ref oB, .ref oP])), (oB, .inr (0, [.ref am, .ref oM, .ref oS, .ref oK, .ref oL, .ref oD])), (am, .inl (tm, 512, .inl f))] H := hP
  have hD : va_D A [(h0, .inr (7, [.ref oB, .ref oP])), (oB, .inr (0, [.ref am, .ref oM, .ref oS, .ref oK, .ref oL, .ref oD])), (am, .inl (tm, 512, .inl f))] := hD
  have hK : va_K (dC, dI) vwCl [(tm, .int)] s := hK
  have hl := lv_entry ([.ref h0, .int 4, .int 1]) (n := 3) (Nat.le_of_ble_eq_true rfl)
  rw [lg_entry_eq]
  generalize (lg_sl ([.ref h0, .int 4, .int 1]) ++ List.replicate (3 - (lg_sl ([.ref h0, .int 4, .int 1])).length) Slot.unset).toArray = ls at hl ⊢
  have hl : lv_has ls 3 [(0, .ref h0), (1, .int 4), (2, .int 1)] := hl
  refine lv_iload_n hx hb dX8_deposit_0 rfl (lv_at hl 1 rfl) ?_
  have hPc := hP.sub (ws' := []) [] rfl
  have hDc := hD.sub (ws' := []) [] (by decide) rfl
  have hKc := hK.sub (tys' := []) [] rfl
  have hFc := va_free (wc := []) hD hS hA [] rfl
  refine va_calli (va_runS (As := [.int 4]) (rest := []) ⟨hx, hb, hml, hown, hts⟩ (c_f_isMemory4 l dC dI  H.size) (va_cwS 1 hts gX8_deposit_X8_isMemory rfl rfl rfl (by decide +kernel) ⟨Nat.le_of_ble_eq_true rfl, Nat.le_of_ble_eq_true rfl⟩) ⟨fun a U g mk q => by obtain ⟨q0, q1, qP, qK, qD⟩ := q; exact ⟨q0, q1, qP, va_K.moved (u := U) (U := U.calling g mk a) (Vm.Alike.refl U.vm) qK, qD⟩, fun U hU hW => ⟨rfl, by rw [hU], by rw [hU]; exact hPc, va_K.moved hW.alike hKc, hDc.weaken (fun _ _ _ _ => trivial)⟩⟩ rfl rfl hl.1 rfl (lv_room (Nat.le_of_ble_eq_true rfl)) dX8_deposit_1 ⟨Nat.le_of_ble_eq_true rfl, Nat.le_of_ble_eq_true rfl⟩) hS (fun q _ h => hFc q h) hFc (fun r1 u2 t H1 locs ht hvm hw hB hz1 hk1 hS => ?_)
  obtain ⟨hP1, hK1, hD1⟩ := hB
  rw [ht] at hP1
  have hK1 := va_K.moved hvm.symm hK1
  try dsimp only at hw
  obtain ⟨hP, hD⟩ := va_join (wr := [(h0, .inr (7, [.ref oB, .ref oP])), (oB, .inr (0, [.ref am, .ref oM, .ref oS, .ref oK, .ref oL, .ref oD])), (am, .inl (tm, 512, .inl f))]) (w1 := []) hP hD [] [0, 1, 2] rfl rfl (by decide) (by decide) hk1 hFc hP1 hD1
  have hK := (hK.sub (tys' := [(tm, .int)]) [0] rfl).app hK1
  generalize H1 = H at hP hS ⊢
  have hP : va_P (dC, dI) vwCl [(h0, .inr (7, [.ref oB, .ref oP])), (oB, .inr (0, [.ref am, .ref oM, .ref oS, .ref oK, .ref oL, .ref oD])), (am, .inl (tm, 512, .inl f))] H := hP
  have hD : va_D A [(h0, .inr (7, [.ref oB, .ref oP])), (oB, .inr (0, [.ref am, .ref oM, .ref oS, .ref oK, .ref oL, .ref oD])), (am, .inl (tm, 512, .inl f))] := hD
  have hK : va_K (dC, dI) vwCl [(tm, .int)] s := hK
  refine W.widen (k := 0) (n := 0) (Nat.le_of_ble_eq_true rfl) (Nat.le_of_ble_eq_true rfl) ?_
  obtain rfl := hw
  refine lv_if_eq (tgt := 14) hx hb dX8_deposit_4 (by decide) (fun c3 => ?_) (fun c3 => ?_)
  · exact absurd c3 (by decide)
  · skip
    refine lv_iload_n hx hb dX8_deposit_7 rfl (lv_at hl 2 rfl) ?_
    have hPc := hP.sub (ws' := []) [] rfl
    have hDc := hD.sub (ws' := []) [] (by decide) rfl
    have hKc := hK.sub (tys' := []) [] rfl
    have hFc := va_free (wc := []) hD hS hA [] rfl
    refine va_calli (va_runS (As := [.int 1]) (rest := []) ⟨hx, hb, hml, hown, hts⟩ (c_f_isWord1 l dC dI  H.size) (va_cwS 1 hts gX8_deposit_X8_isWord rfl rfl rfl (by decide +kernel) ⟨Nat.le_of_ble_eq_true rfl, Nat.le_of_ble_eq_true rfl⟩) ⟨fun a U g mk q => by obtain ⟨q0, q1, qP, qK, qD⟩ := q; exact ⟨q0, q1, qP, va_K.moved (u := U) (U := U.calling g mk a) (Vm.Alike.refl U.vm) qK, qD⟩, fun U hU hW => ⟨rfl, by rw [hU], by rw [hU]; exact hPc, va_K.moved hW.alike hKc, hDc.weaken (fun _ _ _ _ => trivial)⟩⟩ rfl rfl hl.1 rfl (lv_room (Nat.le_of_ble_eq_true rfl)) dX8_deposit_8 ⟨Nat.le_of_ble_eq_true rfl, Nat.le_of_ble_eq_true rfl⟩) hS (fun q _ h => hFc q h) hFc (fun r4 u5 t H1 locs ht hvm hw hB hz1 hk1 hS => ?_)
    obtain ⟨hP1, hK1, hD1⟩ := hB
    rw [ht] at hP1
    have hK1 := va_K.moved hvm.symm hK1
    try dsimp only at hw
    obtain ⟨hP, hD⟩ := va_join (wr := [(h0, .inr (7, [.ref oB, .ref oP])), (oB, .inr (0, [.ref am, .ref oM, .ref oS, .ref oK, .ref oL, .ref oD])), (am, .inl (tm, 512, .inl f))]) (w1 := []) hP hD [] [0, 1, 2] rfl rfl (by decide) (by decide) hk1 hFc hP1 hD1
    have hK := (hK.sub (tys' := [(tm, .int)]) [0] rfl).app hK1
    generalize H1 = H at hP hS ⊢
    have hP : va_P (dC, dI) vwCl [(h0, .inr (7, [.ref oB, .ref oP])), (oB, .inr (0, [.ref am, .ref oM, .ref oS, .ref oK, .ref oL, .ref oD])), (am, .inl (tm, 512, .inl f))] H := hP
    have hD : va_D A [(h0, .inr (7, [.ref oB, .ref oP])), (oB, .inr (0, [.ref am, .ref oM, .ref oS, .ref oK, .ref oL, .ref oD])), (am, .inl (tm, 512, .inl f))] := hD
    have hK : va_K (dC, dI) vwCl [(tm, .int)] s := hK
    refine W.widen (k := 0) (n := 0) (Nat.le_of_ble_eq_true rfl) (Nat.le_of_ble_eq_true rfl) ?_
    obtain rfl := hw
    refine lv_if_ne (tgt := 22) hx hb dX8_deposit_11 (by decide) (fun c6 => ?_) (fun c6 => ?_)
    · skip
      refine lv_aload_n hx hb dX8_deposit_22 rfl (lv_at hl 0 rfl) ?_
      refine va_get (D := (dC, dI)) (ci := 7) (v := .ref oB) (C := RX8) (T := TX8) (N := 2) hx hb hts (by decide +kernel) hown hK hP 0 rfl rfl 0 (by decide) (hts (.fieldLink RX8 10 "UnibusMachine" "bus" "LUnibusMachine$Bus;") (by decide +kernel)) (fun _ h9 => h9) rfl dX8_deposit_23 ?_
      refine va_get (D := (dC, dI)) (ci := 0) (v := .ref am) (C := RX0) (T := TX0) (N := 6) hx hb hts (by decide +kernel) hown hK hP 1 rfl rfl 0 (by decide) (hts (.fieldLink RX8 35 "UnibusMachine$Bus" "memory" "[I") (by decide +kernel)) (fun _ h9 => h9) rfl dX8_deposit_26 ?_
      refine lv_iload_n hx hb dX8_deposit_29 rfl (lv_at hl 1 rfl) ?_
      refine lv_iconst (v := 1) hx hb dX8_deposit_30 (by decide) ?_
      refine lv_ishr hx hb dX8_deposit_31 ?_
      refine lv_topi (fun y7 ey7 => ?_)
      obtain rfl : y7 = 2 := by rw [ey7]; decide
      refine lv_iload_n hx hb dX8_deposit_32 rfl (lv_at hl 2 rfl) ?_
      refine va_iast (D := (dC, dI)) hx hb hK hP hD hS 2 0 rfl rfl (vp_in_iff.mpr (by decide)) dX8_deposit_33 (fun H locs hP hD hS => ?_)
      have hP : va_P (dC, dI) vwCl [(h0, .inr (7, [.ref oB, .ref oP])), (oB, .inr (0, [.ref am, .ref oM, .ref oS, .ref oK, .ref oL, .ref oD])), (am, .inl (tm, 512, .inl (upd f (2 : Int32).toNatClampNeg 1)))] H := hP
      have hD : va_D A [(h0, .inr (7, [.ref oB, .ref oP])), (oB, .inr (0, [.ref am, .ref oM, .ref oS, .ref oK, .ref oL, .ref oD])), (am, .inl (tm, 512, .inl (upd f (2 : Int32).toNatClampNeg 1)))] := hD
      obtain ⟨f8, hf8⟩ : ∃ z : Nat → Int32, z = upd f (2 : Int32).toNatClampNeg 1 := ⟨_, rfl⟩
      rw [← hf8] at hP hD
      have hf8_2 : f8 (2 : Int32).toNatClampNeg = 1 := by rw [hf8, pk_us]
      have hP : va_P (dC, dI) vwCl [(h0, .inr (7, [.ref oB, .ref oP])), (oB, .inr (0, [.ref am, .ref oM, .ref oS, .ref oK, .ref oL, .ref oD])), (am, .inl (tm, 512, .inl f8))] H := hP
      have hD : va_D A [(h0, .inr (7, [.ref oB, .ref oP])), (oB, .inr (0, [.ref am, .ref oM, .ref oS, .ref oK, .ref oL, .ref oD])), (am, .inl (tm, 512, .inl f8))] := hD
      have hx9 : f8 (2 : Int32).toNatClampNeg = 1 := by first | assumption | omega
      have hP9 := hP.sub (ws' := [(h0, .inr (7, [.ref oB, .ref oP])), (oB, .inr (0, [.ref am, .ref oM, .ref oS, .ref oK, .ref oL, .ref oD])), (am, .inl (tm, 512, .inl f8))]) [0, 1, 2] rfl
      have hD9 := hD.sub (ws' := [(h0, .inr (7, [.ref oB, .ref oP])), (oB, .inr (0, [.ref am, .ref oM, .ref oS, .ref oK, .ref oL, .ref oD])), (am, .inl (tm, 512, .inl f8))]) [0, 1, 2] (by decide) rfl
      have hK9 := hK.sub (tys' := [(tm, .int)]) [0] rfl
      exact W.vret hx hb hr (fun t ht hW => ⟨⟨(f8), rfl, hx9, by rw [ht]; exact hP9, va_K.moved hW.alike hK9, hD9⟩, hS.F ht⟩) hS.2.2 dX8_deposit_34
    · exact absurd c6 (by decide)
set_option maxHeartbeats 4000000 in
set_option maxRecDepth 100000 in
theorem c_f_deposit6 (l : Launch) (dC : Nat → ClassId) (dI : Nat → Nat → Nat) (h0 : Nat) (oB : Nat) (oP : Nat) (am : Nat) (oM : Nat) (oS : Nat) (oK : Nat) (oL : Nat) (oD : Nat) (tm : ClassId) (f : Nat → Int32) (sz : Nat) (hF0 : f (2 : Int32).toNatClampNeg = 1) : Met l yX8_deposit wsX8_deposit ({ frames := 1, cells := 0, slots := 0, locals := 20 } : Room) (va_Pc [.ref h0, .int 6, .int 224] (fun U => U.heap.size = sz ∧ va_P (dC, dI) vwCl [(h0, .inr (7, [.ref oB, .ref oP])), (oB, .inr (0, [.ref am, .ref oM, .ref oS, .ref oK, .ref oL, .ref oD])), (am, .inl (tm, 512, .inl f))] U.heap ∧ va_K (dC, dI) vwCl [(tm, .int)] U ∧ va_D (fun _ => True) [(h0, .inr (7, [.ref oB, .ref oP])), (oB, .inr (0, [.ref am, .ref oM, .ref oS, .ref oK, .ref oL, .ref oD])), (am, .inl (tm, 512, .inl f))])) (va_Qv (fun (u : (Nat → Int32)) => (u (2 : Int32).toNatClampNeg = 1) ∧ (u (3 : Int32).toNatClampNeg = 224)) (fun (u : (Nat → Int32)) (t : State) => va_P (dC, dI) vwCl [(h0, .inr (7, [.ref oB, .ref oP])), (oB, .inr (0, [.ref am, .ref oM, .ref oS, .ref oK, .ref oL, .ref oD])), (am, .inl (tm, 512, .inl u))] t.heap ∧ va_K (dC, dI) vwCl [(tm, .int)] t ∧ va_D (va_A [(h0, .inr (7, [.ref oB, .ref oP])), (oB, .inr (0, [.ref am, .ref oM, .ref oS, .ref oK, .ref oL, .ref oD])), (am, .inl (tm, 512, .inl f))] sz) [(h0, .inr (7, [.ref oB, .ref oP])), (oB, .inr (0, [.ref am, .ref oM, .ref oS, .ref oK, .ref oL, .ref oD])), (am, .inl (tm, 512, .inl u))]) (va_A [(h0, .inr (7, [.ref oB, .ref oP])), (oB, .inr (0, [.ref am, .ref oM, .ref oS, .ref oK, .ref oL, .ref oD])), (am, .inl (tm, 512, .inl f))] sz)) 0 0 (va_A [(h0, .inr (7, [.ref oB, .ref oP])), (oB, .inr (0, [.ref am, .ref oM, .ref oS, .ref oK, .ref oL, .ref oD])), (am, .inl (tm, 512, .inl f))] sz) := by
  refine Met.ofW (cc := cX8_deposit) (maxL := 3) (ret := none) (by decide) rfl ?_
  intro p e s m args below meth c s₁ B hml hv
  obtain ⟨rfl, hsz, hP, hK, hD0⟩ := hv
  have hx := B.exec
  have hb := B.bytes
  have hr := B.returns
  have hts := atoms_spec (ws := wsX8_deposit) B.pre
  have hown : s.vm.findClass RX8 = some m.cls := findClass_of_methodNamed B.named
  have hlocks := B.notSynchronized
  have hD := hD0.self (sz := sz)
  generalize hAe : va_A [(h0, .inr (7, [.ref oB, .ref oP])), (oB, .inr (0, [.ref am, .ref oM, .ref oS, .ref oK, .ref oL, .ref oD])), (am, .inl (tm, 512, .inl f))] sz = A at hD ⊢
  have hA : ∀ q : Nat, s.heap.size ≤ q → A q := fun q h => by rw [← hAe]; exact Or.inr (by omega)
  have hS0 : ∀ G : Heap, s.heap = G → va_S A s.heap G [] := fun G h => by subst h; exact va_S.rf
  generalize hHe : s.heap = H at hP ⊢
  have hS := hS0 H hHe
  have hP : va_P (dC, dI) vwCl [(h0, .inr (7, [.ref oB, .ref oP])), (oB, .inr (0, [.ref am, .ref oM, .ref oS, .ref oK, .ref oL, .ref oD])), (am, .inl (tm, 512, .inl f))] H := hP
  have hD : va_D A [(h0, .inr (7, [.ref oB, .ref oP])), (oB, .inr (0, [.ref am, .ref oM, .ref oS, .ref oK, .ref oL, .ref oD])), (am, .inl (tm, 512, .inl f))] := hD
  have hK : va_K (dC, dI) vwCl [(tm, .int)] s := hK
  have hl := lv_entry ([.ref h0, .int 6, .int 224]) (n := 3) (Nat.le_of_ble_eq_true rfl)
  rw [lg_entry_eq]
  generalize (lg_sl ([.ref h0, .int 6, .int 224]) ++ List.replicate (3 - (lg_sl ([.ref h0, .int 6, .int 224])).length) Slot.unset).toArray = ls at hl ⊢
  have hl : lv_has ls 3 [(0, .ref h0), (1, .int 6), (2, .int 224)] := hl
  refine lv_iload_n hx hb dX8_deposit_0 rfl (lv_at hl 1 rfl) ?_
  have hPc := hP.sub (ws' := []) [] rfl
  have hDc := hD.sub (ws' := []) [] (by decide) rfl
  have hKc := hK.sub (tys' := []) [] rfl
  have hFc := va_free (wc := []) hD hS hA [] rfl
  refine va_calli (va_runS (As := [.int 6]) (rest := []) ⟨hx, hb, hml, hown, hts⟩ (c_f_isMemory6 l dC dI  H.size) (va_cwS 1 hts gX8_deposit_X8_isMemory rfl rfl rfl (by decide +kernel) ⟨Nat.le_of_ble_eq_true rfl, Nat.le_of_ble_eq_true rfl⟩) ⟨fun a U g mk q => by obtain ⟨q0, q1, qP, qK, qD⟩ := q; exact ⟨q0, q1, qP, va_K.moved (u := U) (U := U.calling g mk a) (Vm.Alike.refl U.vm) qK, qD⟩, fun U hU hW => ⟨rfl, by rw [hU], by rw [hU]; exact hPc, va_K.moved hW.alike hKc, hDc.weaken (fun _ _ _ _ => trivial)⟩⟩ rfl rfl hl.1 rfl (lv_room (Nat.le_of_ble_eq_true rfl)) dX8_deposit_1 ⟨Nat.le_of_ble_eq_true rfl, Nat.le_of_ble_eq_true rfl⟩) hS (fun q _ h => hFc q h) hFc (fun r1 u2 t H1 locs ht hvm hw hB hz1 hk1 hS => ?_)
  obtain ⟨hP1, hK1, hD1⟩ := hB
  rw [ht] at hP1
  have hK1 := va_K.moved hvm.symm hK1
  try dsimp only at hw
  obtain ⟨hP, hD⟩ := va_join (wr := [(h0, .inr (7, [.ref oB, .ref oP])), (oB, .inr (0, [.ref am, .ref oM, .ref oS, .ref oK, .ref oL, .ref oD])), (am, .inl (tm, 512, .inl f))]) (w1 := []) hP hD [] [0, 1, 2] rfl rfl (by decide) (by decide) hk1 hFc hP1 hD1
  have hK := (hK.sub (tys' := [(tm, .int)]) [0] rfl).app hK1
  generalize H1 = H at hP hS ⊢
  have hP : va_P (dC, dI) vwCl [(h0, .inr (7, [.ref oB, .ref oP])), (oB, .inr (0, [.ref am, .ref oM, .ref oS, .ref oK, .ref oL, .ref oD])), (am, .inl (tm, 512, .inl f))] H := hP
  have hD : va_D A [(h0, .inr (7, [.ref oB, .ref oP])), (oB, .inr (0, [.ref am, .ref oM, .ref oS, .ref oK, .ref oL, .ref oD])), (am, .inl (tm, 512, .inl f))] := hD
  have hK : va_K (dC, dI) vwCl [(tm, .int)] s := hK
  refine W.widen (k := 0) (n := 0) (Nat.le_of_ble_eq_true rfl) (Nat.le_of_ble_eq_true rfl) ?_
  obtain rfl := hw
  refine lv_if_eq (tgt := 14) hx hb dX8_deposit_4 (by decide) (fun c3 => ?_) (fun c3 => ?_)
  · exact absurd c3 (by decide)
  · skip
    refine lv_iload_n hx hb dX8_deposit_7 rfl (lv_at hl 2 rfl) ?_
    have hPc := hP.sub (ws' := []) [] rfl
    have hDc := hD.sub (ws' := []) [] (by decide) rfl
    have hKc := hK.sub (tys' := []) [] rfl
    have hFc := va_free (wc := []) hD hS hA [] rfl
    refine va_calli (va_runS (As := [.int 224]) (rest := []) ⟨hx, hb, hml, hown, hts⟩ (c_f_isWord224 l dC dI  H.size) (va_cwS 1 hts gX8_deposit_X8_isWord rfl rfl rfl (by decide +kernel) ⟨Nat.le_of_ble_eq_true rfl, Nat.le_of_ble_eq_true rfl⟩) ⟨fun a U g mk q => by obtain ⟨q0, q1, qP, qK, qD⟩ := q; exact ⟨q0, q1, qP, va_K.moved (u := U) (U := U.calling g mk a) (Vm.Alike.refl U.vm) qK, qD⟩, fun U hU hW => ⟨rfl, by rw [hU], by rw [hU]; exact hPc, va_K.moved hW.alike hKc, hDc.weaken (fun _ _ _ _ => trivial)⟩⟩ rfl rfl hl.1 rfl (lv_room (Nat.le_of_ble_eq_true rfl)) dX8_deposit_8 ⟨Nat.le_of_ble_eq_true rfl, Nat.le_of_ble_eq_true rfl⟩) hS (fun q _ h => hFc q h) hFc (fun r4 u5 t H1 locs ht hvm hw hB hz1 hk1 hS => ?_)
    obtain ⟨hP1, hK1, hD1⟩ := hB
    rw [ht] at hP1
    have hK1 := va_K.moved hvm.symm hK1
    try dsimp only at hw
    obtain ⟨hP, hD⟩ := va_join (wr := [(h0, .inr (7, [.ref oB, .ref oP])), (oB, .inr (0, [.ref am, .ref oM, .ref oS, .ref oK, .ref oL, .ref oD])), (am, .inl (tm, 512, .inl f))]) (w1 := []) hP hD [] [0, 1, 2] rfl rfl (by decide) (by decide) hk1 hFc hP1 hD1
    have hK := (hK.sub (tys' := [(tm, .int)]) [0] rfl).app hK1
    generalize H1 = H at hP hS ⊢
    have hP : va_P (dC, dI) vwCl [(h0, .inr (7, [.ref oB, .ref oP])), (oB, .inr (0, [.ref am, .ref oM, .ref oS, .ref oK, .ref oL, .ref oD])), (am, .inl (tm, 512, .inl f))] H := hP
    have hD : va_D A [(h0, .inr (7, [.ref oB, .ref oP])), (oB, .inr (0, [.ref am, .ref oM, .ref oS, .ref oK, .ref oL, .ref oD])), (am, .inl (tm, 512, .inl f))] := hD
    have hK : va_K (dC, dI) vwCl [(tm, .int)] s := hK
    refine W.widen (k := 0) (n := 0) (Nat.le_of_ble_eq_true rfl) (Nat.le_of_ble_eq_true rfl) ?_
    obtain rfl := hw
    refine lv_if_ne (tgt := 22) hx hb dX8_deposit_11 (by decide) (fun c6 => ?_) (fun c6 => ?_)
    · skip
      refine lv_aload_n hx hb dX8_deposit_22 rfl (lv_at hl 0 rfl) ?_
      refine va_get (D := (dC, dI)) (ci := 7) (v := .ref oB) (C := RX8) (T := TX8) (N := 2) hx hb hts (by decide +kernel) hown hK hP 0 rfl rfl 0 (by decide) (hts (.fieldLink RX8 10 "UnibusMachine" "bus" "LUnibusMachine$Bus;") (by decide +kernel)) (fun _ h9 => h9) rfl dX8_deposit_23 ?_
      refine va_get (D := (dC, dI)) (ci := 0) (v := .ref am) (C := RX0) (T := TX0) (N := 6) hx hb hts (by decide +kernel) hown hK hP 1 rfl rfl 0 (by decide) (hts (.fieldLink RX8 35 "UnibusMachine$Bus" "memory" "[I") (by decide +kernel)) (fun _ h9 => h9) rfl dX8_deposit_26 ?_
      refine lv_iload_n hx hb dX8_deposit_29 rfl (lv_at hl 1 rfl) ?_
      refine lv_iconst (v := 1) hx hb dX8_deposit_30 (by decide) ?_
      refine lv_ishr hx hb dX8_deposit_31 ?_
      refine lv_topi (fun y7 ey7 => ?_)
      obtain rfl : y7 = 3 := by rw [ey7]; decide
      refine lv_iload_n hx hb dX8_deposit_32 rfl (lv_at hl 2 rfl) ?_
      refine va_iast (D := (dC, dI)) hx hb hK hP hD hS 2 0 rfl rfl (vp_in_iff.mpr (by decide)) dX8_deposit_33 (fun H locs hP hD hS => ?_)
      have hP : va_P (dC, dI) vwCl [(h0, .inr (7, [.ref oB, .ref oP])), (oB, .inr (0, [.ref am, .ref oM, .ref oS, .ref oK, .ref oL, .ref oD])), (am, .inl (tm, 512, .inl (upd f (3 : Int32).toNatClampNeg 224)))] H := hP
      have hD : va_D A [(h0, .inr (7, [.ref oB, .ref oP])), (oB, .inr (0, [.ref am, .ref oM, .ref oS, .ref oK, .ref oL, .ref oD])), (am, .inl (tm, 512, .inl (upd f (3 : Int32).toNatClampNeg 224)))] := hD
      obtain ⟨f8, hf8⟩ : ∃ z : Nat → Int32, z = upd f (3 : Int32).toNatClampNeg 224 := ⟨_, rfl⟩
      rw [← hf8] at hP hD
      have hf8_2 : f8 (2 : Int32).toNatClampNeg = 1 := by rw [hf8, pk_un (by decide)]; assumption
      have hf8_3 : f8 (3 : Int32).toNatClampNeg = 224 := by rw [hf8, pk_us]
      have hP : va_P (dC, dI) vwCl [(h0, .inr (7, [.ref oB, .ref oP])), (oB, .inr (0, [.ref am, .ref oM, .ref oS, .ref oK, .ref oL, .ref oD])), (am, .inl (tm, 512, .inl f8))] H := hP
      have hD : va_D A [(h0, .inr (7, [.ref oB, .ref oP])), (oB, .inr (0, [.ref am, .ref oM, .ref oS, .ref oK, .ref oL, .ref oD])), (am, .inl (tm, 512, .inl f8))] := hD
      have hx9 : f8 (2 : Int32).toNatClampNeg = 1 := by first | assumption | omega
      have hx10 : f8 (3 : Int32).toNatClampNeg = 224 := by first | assumption | omega
      have hP9 := hP.sub (ws' := [(h0, .inr (7, [.ref oB, .ref oP])), (oB, .inr (0, [.ref am, .ref oM, .ref oS, .ref oK, .ref oL, .ref oD])), (am, .inl (tm, 512, .inl f8))]) [0, 1, 2] rfl
      have hD9 := hD.sub (ws' := [(h0, .inr (7, [.ref oB, .ref oP])), (oB, .inr (0, [.ref am, .ref oM, .ref oS, .ref oK, .ref oL, .ref oD])), (am, .inl (tm, 512, .inl f8))]) [0, 1, 2] (by decide) rfl
      have hK9 := hK.sub (tys' := [(tm, .int)]) [0] rfl
      exact W.vret hx hb hr (fun t ht hW => ⟨⟨(f8), rfl, ⟨hx9, hx10⟩, by rw [ht]; exact hP9, va_K.moved hW.alike hK9, hD9⟩, hS.F ht⟩) hS.2.2 dX8_deposit_34
    · exact absurd c6 (by decide)
set_option maxHeartbeats 4000000 in
set_option maxRecDepth 100000 in
theorem c_f_mode (l : Launch) (dC : Nat → ClassId) (dI : Nat → Nat → Nat) (h0 : Nat) (ar : Nat) (oB : Nat) (oS : Nat) (sz : Nat) : Met l yX6_mode wsX6_mode ({ frames := 0, cells := 0, slots := 0, locals := 0 } : Room) (va_Pc [.ref h0] (fun U => U.heap.size = sz ∧ va_P (dC, dI) vwCl [(h0, .inr (5, [.ref ar, .ref oB, .ref oS, .int 0, .int 2, .int 0, .int 0, .int 0, .int 0])), (oS, .inr (6, [.int 0, .int (-1)]))] U.heap ∧ va_K (dC, dI) vwCl [] U ∧ va_D (fun _ => True) [(h0, .inr (5, [.ref ar, .ref oB, .ref oS, .int 0, .int 2, .int 0, .int 0, .int 0, .int 0])), (oS, .inr (6, [.int 0, .int (-1)]))])) (va_Qi (fun (r : Int32) (u : Unit) => (0 = r)) (fun (u : Unit) (t : State) => va_P (dC, dI) vwCl [(h0, .inr (5, [.ref ar, .ref oB, .ref oS, .int 0, .int 2, .int 0, .int 0, .int 0, .int 0])), (oS, .inr (6, [.int 0, .int (-1)]))] t.heap ∧ va_K (dC, dI) vwCl [] t ∧ va_D (va_A [(h0, .inr (5, [.ref ar, .ref oB, .ref oS, .int 0, .int 2, .int 0, .int 0, .int 0, .int 0])), (oS, .inr (6, [.int 0, .int (-1)]))] sz) [(h0, .inr (5, [.ref ar, .ref oB, .ref oS, .int 0, .int 2, .int 0, .int 0, .int 0, .int 0])), (oS, .inr (6, [.int 0, .int (-1)]))]) (va_A [(h0, .inr (5, [.ref ar, .ref oB, .ref oS, .int 0, .int 2, .int 0, .int 0, .int 0, .int 0])), (oS, .inr (6, [.int 0, .int (-1)]))] sz)) 0 0 (va_A [(h0, .inr (5, [.ref ar, .ref oB, .ref oS, .int 0, .int 2, .int 0, .int 0, .int 0, .int 0])), (oS, .inr (6, [.int 0, .int (-1)]))] sz) := by
  refine Met.ofW (cc := cX6_mode) (maxL := 1) (ret := (some .int)) (by decide) rfl ?_
  intro p e s m args below meth c s₁ B hml hv
  obtain ⟨rfl, hsz, hP, hK, hD0⟩ := hv
  have hx := B.exec
  have hb := B.bytes
  have hr := B.returns
  have hts := atoms_spec (ws := wsX6_mode) B.pre
  have hown : s.vm.findClass RX6 = some m.cls := findClass_of_methodNamed B.named
  have hlocks := B.notSynchronized
  have hD := hD0.self (sz := sz)
  generalize hAe : va_A [(h0, .inr (5, [.ref ar, .ref oB, .ref oS, .int 0, .int 2, .int 0, .int 0, .int 0, .int 0])), (oS, .inr (6, [.int 0, .int (-1)]))] sz = A at hD ⊢
  have hA : ∀ q : Nat, s.heap.size ≤ q → A q := fun q h => by rw [← hAe]; exact Or.inr (by omega)
  have hS0 : ∀ G : Heap, s.heap = G → va_S A s.heap G [] := fun G h => by subst h; exact va_S.rf
  generalize hHe : s.heap = H at hP ⊢
  have hS := hS0 H hHe
  have hP : va_P (dC, dI) vwCl [(h0, .inr (5, [.ref ar, .ref oB, .ref oS, .int 0, .int 2, .int 0, .int 0, .int 0, .int 0])), (oS, .inr (6, [.int 0, .int (-1)]))] H := hP
  have hD : va_D A [(h0, .inr (5, [.ref ar, .ref oB, .ref oS, .int 0, .int 2, .int 0, .int 0, .int 0, .int 0])), (oS, .inr (6, [.int 0, .int (-1)]))] := hD
  have hK : va_K (dC, dI) vwCl [] s := hK
  have hl := lv_entry ([.ref h0]) (n := 1) (Nat.le_of_ble_eq_true rfl)
  rw [lg_entry_eq]
  generalize (lg_sl ([.ref h0]) ++ List.replicate (1 - (lg_sl ([.ref h0])).length) Slot.unset).toArray = ls at hl ⊢
  have hl : lv_has ls 1 [(0, .ref h0)] := hl
  refine lv_aload_n hx hb dX6_mode_0 rfl (lv_at hl 0 rfl) ?_
  refine va_get (D := (dC, dI)) (ci := 5) (v := .ref oS) (C := RX6) (T := TX6) (N := 9) hx hb hts (by decide +kernel) hown hK hP 0 rfl rfl 2 (by decide) (hts (.fieldLink RX6 43 "UnibusMachine$Processor" "status" "LUnibusMachine$Status;") (by decide +kernel)) (fun _ h9 => h9) rfl dX6_mode_1 ?_
  refine va_get (D := (dC, dI)) (ci := 6) (v := .int 0) (C := RX7) (T := TX7) (N := 2) hx hb hts (by decide +kernel) hown hK hP 1 rfl rfl 0 (by decide) (hts (.fieldLink RX6 44 "UnibusMachine$Status" "now" "I") (by decide +kernel)) (fun _ h9 => h9) rfl dX6_mode_4 ?_
  refine lv_bipush (v := 14) hx hb dX6_mode_7 (by decide) ?_
  refine lv_ishr hx hb dX6_mode_9 ?_
  refine lv_topi (fun y1 ey1 => ?_)
  obtain rfl : y1 = 0 := by rw [ey1]; decide
  refine lv_iconst (v := 1) hx hb dX6_mode_10 (by decide) ?_
  refine lv_iand hx hb dX6_mode_11 ?_
  refine lv_topi (fun y2 ey2 => ?_)
  obtain rfl : y2 = 0 := by rw [ey2]; decide
  have hP9 := hP.sub (ws' := [(h0, .inr (5, [.ref ar, .ref oB, .ref oS, .int 0, .int 2, .int 0, .int 0, .int 0, .int 0])), (oS, .inr (6, [.int 0, .int (-1)]))]) [0, 1] rfl
  have hD9 := hD.sub (ws' := [(h0, .inr (5, [.ref ar, .ref oB, .ref oS, .int 0, .int 2, .int 0, .int 0, .int 0, .int 0])), (oS, .inr (6, [.int 0, .int (-1)]))]) [0, 1] (by decide) rfl
  have hK9 := hK.sub (tys' := []) [] rfl
  exact W.iret (v := 0) hx hb hr (fun t ht hW => ⟨⟨0, (), rfl, rfl, by rw [ht]; exact hP9, va_K.moved hW.alike hK9, hD9⟩, hS.F ht⟩) hS.2.2 dX6_mode_12
set_option maxHeartbeats 4000000 in
set_option maxRecDepth 100000 in
theorem c_f_set (l : Launch) (dC : Nat → ClassId) (dI : Nat → Nat → Nat) (h0 : Nat) (oB : Nat) (oP : Nat) (oS : Nat) (ar : Nat) (tr : ClassId) (g : Nat → Int32) (sz : Nat) : Met l yX8_set wsX8_set ({ frames := 1, cells := 0, slots := 0, locals := 20 } : Room) (va_Pc [.ref h0, .int 6, .int 1024] (fun U => U.heap.size = sz ∧ va_P (dC, dI) vwCl [(h0, .inr (7, [.ref oB, .ref oP])), (oP, .inr (5, [.ref ar, .ref oB, .ref oS, .int 0, .int 2, .int 0, .int 0, .int 0, .int 0])), (oS, .inr (6, [.int 0, .int (-1)])), (ar, .inl (tr, 8, .inl g))] U.heap ∧ va_K (dC, dI) vwCl [(tr, .int)] U ∧ va_D (fun _ => True) [(h0, .inr (7, [.ref oB, .ref oP])), (oP, .inr (5, [.ref ar, .ref oB, .ref oS, .int 0, .int 2, .int 0, .int 0, .int 0, .int 0])), (oS, .inr (6, [.int 0, .int (-1)])), (ar, .inl (tr, 8, .inl g))])) (va_Qv (fun (u : (Nat → Int32)) => (u (6 : Int32).toNatClampNeg = 1024)) (fun (u : (Nat → Int32)) (t : State) => va_P (dC, dI) vwCl [(h0, .inr (7, [.ref oB, .ref oP])), (oP, .inr (5, [.ref ar, .ref oB, .ref oS, .int 0, .int 2, .int 0, .int 0, .int 0, .int 0])), (oS, .inr (6, [.int 0, .int (-1)])), (ar, .inl (tr, 8, .inl u))] t.heap ∧ va_K (dC, dI) vwCl [(tr, .int)] t ∧ va_D (va_A [(h0, .inr (7, [.ref oB, .ref oP])), (oP, .inr (5, [.ref ar, .ref oB, .ref oS, .int 0, .int 2, .int 0, .int 0, .int 0, .int 0])), (oS, .inr (6, [.int 0, .int (-1)])), (ar, .inl (tr, 8, .inl g))] sz) [(h0, .inr (7, [.ref oB, .ref oP])), (oP, .inr (5, [.ref ar, .ref oB, .ref oS, .int 0, .int 2, .int 0, .int 0, .int 0, .int 0])), (oS, .inr (6, [.int 0, .int (-1)])), (ar, .inl (tr, 8, .inl u))]) (va_A [(h0, .inr (7, [.ref oB, .ref oP])), (oP, .inr (5, [.ref ar, .ref oB, .ref oS, .int 0, .int 2, .int 0, .int 0, .int 0, .int 0])), (oS, .inr (6, [.int 0, .int (-1)])), (ar, .inl (tr, 8, .inl g))] sz)) 0 0 (va_A [(h0, .inr (7, [.ref oB, .ref oP])), (oP, .inr (5, [.ref ar, .ref oB, .ref oS, .int 0, .int 2, .int 0, .int 0, .int 0, .int 0])), (oS, .inr (6, [.int 0, .int (-1)])), (ar, .inl (tr, 8, .inl g))] sz) := by
  refine Met.ofW (cc := cX8_set) (maxL := 3) (ret := none) (by decide) rfl ?_
  intro p e s m args below meth c s₁ B hml hv
  obtain ⟨rfl, hsz, hP, hK, hD0⟩ := hv
  have hx := B.exec
  have hb := B.bytes
  have hr := B.returns
  have hts := atoms_spec (ws := wsX8_set) B.pre
  have hown : s.vm.findClass RX8 = some m.cls := findClass_of_methodNamed B.named
  have hlocks := B.notSynchronized
  have hD := hD0.self (sz := sz)
  generalize hAe : va_A [(h0, .inr (7, [.ref oB, .ref oP])), (oP, .inr (5, [.ref ar, .ref oB, .ref oS, .int 0, .int 2, .int 0, .int 0, .int 0, .int 0])), (oS, .inr (6, [.int 0, .int (-1)])), (ar, .inl (tr, 8, .inl g))] sz = A at hD ⊢
  have hA : ∀ q : Nat, s.heap.size ≤ q → A q := fun q h => by rw [← hAe]; exact Or.inr (by omega)
  have hS0 : ∀ G : Heap, s.heap = G → va_S A s.heap G [] := fun G h => by subst h; exact va_S.rf
  generalize hHe : s.heap = H at hP ⊢
  have hS := hS0 H hHe
  have hP : va_P (dC, dI) vwCl [(h0, .inr (7, [.ref oB, .ref oP])), (oP, .inr (5, [.ref ar, .ref oB, .ref oS, .int 0, .int 2, .int 0, .int 0, .int 0, .int 0])), (oS, .inr (6, [.int 0, .int (-1)])), (ar, .inl (tr, 8, .inl g))] H := hP
  have hD : va_D A [(h0, .inr (7, [.ref oB, .ref oP])), (oP, .inr (5, [.ref ar, .ref oB, .ref oS, .int 0, .int 2, .int 0, .int 0, .int 0, .int 0])), (oS, .inr (6, [.int 0, .int (-1)])), (ar, .inl (tr, 8, .inl g))] := hD
  have hK : va_K (dC, dI) vwCl [(tr, .int)] s := hK
  have hl := lv_entry ([.ref h0, .int 6, .int 1024]) (n := 3) (Nat.le_of_ble_eq_true rfl)
  rw [lg_entry_eq]
  generalize (lg_sl ([.ref h0, .int 6, .int 1024]) ++ List.replicate (3 - (lg_sl ([.ref h0, .int 6, .int 1024])).length) Slot.unset).toArray = ls at hl ⊢
  have hl : lv_has ls 3 [(0, .ref h0), (1, .int 6), (2, .int 1024)] := hl
  refine lv_iload_n hx hb dX8_set_0 rfl (lv_at hl 1 rfl) ?_
  refine lv_if_lt (tgt := 17) hx hb dX8_set_1 (by decide) (fun c1 => ?_) (fun c1 => ?_)
  · exact absurd c1 (by decide)
  · skip
    refine lv_iload_n hx hb dX8_set_4 rfl (lv_at hl 1 rfl) ?_
    refine lv_bipush (v := 7) hx hb dX8_set_5 (by decide) ?_
    refine lv_icmp_gt (tgt := 17) hx hb dX8_set_7 (by decide) (fun c2 => ?_) (fun c2 => ?_)
    · exact absurd c2 (by decide)
    · skip
      refine lv_iload_n hx hb dX8_set_10 rfl (lv_at hl 2 rfl) ?_
      have hPc := hP.sub (ws' := []) [] rfl
      have hDc := hD.sub (ws' := []) [] (by decide) rfl
      have hKc := hK.sub (tys' := []) [] rfl
      have hFc := va_free (wc := []) hD hS hA [] rfl
      refine va_calli (va_runS (As := [.int 1024]) (rest := []) ⟨hx, hb, hml, hown, hts⟩ (c_f_isWord1024 l dC dI  H.size) (va_cwS 1 hts gX8_set_X8_isWord rfl rfl rfl (by decide +kernel) ⟨Nat.le_of_ble_eq_true rfl, Nat.le_of_ble_eq_true rfl⟩) ⟨fun a U g mk q => by obtain ⟨q0, q1, qP, qK, qD⟩ := q; exact ⟨q0, q1, qP, va_K.moved (u := U) (U := U.calling g mk a) (Vm.Alike.refl U.vm) qK, qD⟩, fun U hU hW => ⟨rfl, by rw [hU], by rw [hU]; exact hPc, va_K.moved hW.alike hKc, hDc.weaken (fun _ _ _ _ => trivial)⟩⟩ rfl rfl hl.1 rfl (lv_room (Nat.le_of_ble_eq_true rfl)) dX8_set_11 ⟨Nat.le_of_ble_eq_true rfl, Nat.le_of_ble_eq_true rfl⟩) hS (fun q _ h => hFc q h) hFc (fun r3 u4 t H1 locs ht hvm hw hB hz1 hk1 hS => ?_)
      obtain ⟨hP1, hK1, hD1⟩ := hB
      rw [ht] at hP1
      have hK1 := va_K.moved hvm.symm hK1
      try dsimp only at hw
      obtain ⟨hP, hD⟩ := va_join (wr := [(h0, .inr (7, [.ref oB, .ref oP])), (oP, .inr (5, [.ref ar, .ref oB, .ref oS, .int 0, .int 2, .int 0, .int 0, .int 0, .int 0])), (oS, .inr (6, [.int 0, .int (-1)])), (ar, .inl (tr, 8, .inl g))]) (w1 := []) hP hD [] [0, 1, 2, 3] rfl rfl (by decide) (by decide) hk1 hFc hP1 hD1
      have hK := (hK.sub (tys' := [(tr, .int)]) [0] rfl).app hK1
      generalize H1 = H at hP hS ⊢
      have hP : va_P (dC, dI) vwCl [(h0, .inr (7, [.ref oB, .ref oP])), (oP, .inr (5, [.ref ar, .ref oB, .ref oS, .int 0, .int 2, .int 0, .int 0, .int 0, .int 0])), (oS, .inr (6, [.int 0, .int (-1)])), (ar, .inl (tr, 8, .inl g))] H := hP
      have hD : va_D A [(h0, .inr (7, [.ref oB, .ref oP])), (oP, .inr (5, [.ref ar, .ref oB, .ref oS, .int 0, .int 2, .int 0, .int 0, .int 0, .int 0])), (oS, .inr (6, [.int 0, .int (-1)])), (ar, .inl (tr, 8, .inl g))] := hD
      have hK : va_K (dC, dI) vwCl [(tr, .int)] s := hK
      refine W.widen (k := 0) (n := 0) (Nat.le_of_ble_eq_true rfl) (Nat.le_of_ble_eq_true rfl) ?_
      obtain rfl := hw
      refine lv_if_ne (tgt := 25) hx hb dX8_set_14 (by decide) (fun c5 => ?_) (fun c5 => ?_)
      · skip
        refine lv_iload_n hx hb dX8_set_25 rfl (lv_at hl 1 rfl) ?_
        refine lv_bipush (v := 6) hx hb dX8_set_26 (by decide) ?_
        refine lv_icmp_ne (tgt := 52) hx hb dX8_set_28 (by decide) (fun c6 => ?_) (fun c6 => ?_)
        · exact absurd c6 (by decide)
        · skip
          refine lv_aload_n hx hb dX8_set_31 rfl (lv_at hl 0 rfl) ?_
          refine va_get (D := (dC, dI)) (ci := 7) (v := .ref oP) (C := RX8) (T := TX8) (N := 2) hx hb hts (by decide +kernel) hown hK hP 0 rfl rfl 1 (by decide) (hts (.fieldLink RX8 21 "UnibusMachine" "processor" "LUnibusMachine$Processor;") (by decide +kernel)) (fun _ h9 => h9) rfl dX8_set_32 ?_
          have hPc := hP.sub (ws' := [(oP, .inr (5, [.ref ar, .ref oB, .ref oS, .int 0, .int 2, .int 0, .int 0, .int 0, .int 0])), (oS, .inr (6, [.int 0, .int (-1)]))]) [1, 2] rfl
          have hDc := hD.sub (ws' := [(oP, .inr (5, [.ref ar, .ref oB, .ref oS, .int 0, .int 2, .int 0, .int 0, .int 0, .int 0])), (oS, .inr (6, [.int 0, .int (-1)]))]) [1, 2] (by decide) rfl
          have hKc := hK.sub (tys' := []) [] rfl
          have hFc := va_free (wc := [(oP, .inr (5, [.ref ar, .ref oB, .ref oS, .int 0, .int 2, .int 0, .int 0, .int 0, .int 0])), (oS, .inr (6, [.int 0, .int (-1)]))]) hD hS hA [1, 2] rfl
          refine va_calli (va_runV (As := []) (rest := []) ⟨hx, hb, hml, hown, hts⟩ (c_f_mode l dC dI oP ar oB oS H.size) (cwV 0 hts gX8_set_X6_mode rfl rfl rfl (by decide +kernel) ⟨Nat.le_of_ble_eq_true rfl, Nat.le_of_ble_eq_true rfl⟩) ⟨fun a U g mk q => by obtain ⟨q0, q1, qP, qK, qD⟩ := q; exact ⟨q0, q1, qP, va_K.moved (u := U) (U := U.calling g mk a) (Vm.Alike.refl U.vm) qK, qD⟩, va_recv hKc hPc (ci := 5) (q0 := 0) rfl rfl, fun U hU hW => ⟨rfl, by rw [hU], by rw [hU]; exact hPc, va_K.moved hW.alike hKc, hDc.weaken (fun _ _ _ _ => trivial)⟩⟩ rfl rfl hl.1 rfl (lv_room (Nat.le_of_ble_eq_true rfl)) dX8_set_35 ⟨Nat.le_of_ble_eq_true rfl, Nat.le_of_ble_eq_true rfl⟩) hS (fun q _ h => hFc q h) hFc (fun r7 u8 t H1 locs ht hvm hw hB hz1 hk1 hS => ?_)
          obtain ⟨hP1, hK1, hD1⟩ := hB
          rw [ht] at hP1
          have hK1 := va_K.moved hvm.symm hK1
          try dsimp only at hw
          obtain ⟨hP, hD⟩ := va_join (wr := [(h0, .inr (7, [.ref oB, .ref oP])), (ar, .inl (tr, 8, .inl g))]) (w1 := [(oP, .inr (5, [.ref ar, .ref oB, .ref oS, .int 0, .int 2, .int 0, .int 0, .int 0, .int 0])), (oS, .inr (6, [.int 0, .int (-1)]))]) hP hD [1, 2] [0, 3] rfl rfl (by decide) (by decide) hk1 hFc hP1 hD1
          have hK := (hK.sub (tys' := [(tr, .int)]) [0] rfl).app hK1
          generalize H1 = H at hP hS ⊢
          have hP : va_P (dC, dI) vwCl [(h0, .inr (7, [.ref oB, .ref oP])), (ar, .inl (tr, 8, .inl g)), (oP, .inr (5, [.ref ar, .ref oB, .ref oS, .int 0, .int 2, .int 0, .int 0, .int 0, .int 0])), (oS, .inr (6, [.int 0, .int (-1)]))] H := hP
          have hD : va_D A [(h0, .inr (7, [.ref oB, .ref oP])), (ar, .inl (tr, 8, .inl g)), (oP, .inr (5, [.ref ar, .ref oB, .ref oS, .int 0, .int 2, .int 0, .int 0, .int 0, .int 0])), (oS, .inr (6, [.int 0, .int (-1)]))] := hD
          have hK : va_K (dC, dI) vwCl [(tr, .int)] s := hK
          refine W.widen (k := 0) (n := 0) (Nat.le_of_ble_eq_true rfl) (Nat.le_of_ble_eq_true rfl) ?_
          obtain rfl := hw
          refine lv_if_eq (tgt := 52) hx hb dX8_set_38 (by decide) (fun c9 => ?_) (fun c9 => ?_)
          · skip
            refine lv_aload_n hx hb dX8_set_52 rfl (lv_at hl 0 rfl) ?_
            refine va_get (D := (dC, dI)) (ci := 7) (v := .ref oP) (C := RX8) (T := TX8) (N := 2) hx hb hts (by decide +kernel) hown hK hP 0 rfl rfl 1 (by decide) (hts (.fieldLink RX8 21 "UnibusMachine" "processor" "LUnibusMachine$Processor;") (by decide +kernel)) (fun _ h9 => h9) rfl dX8_set_53 ?_
            refine va_get (D := (dC, dI)) (ci := 5) (v := .ref ar) (C := RX6) (T := TX6) (N := 9) hx hb hts (by decide +kernel) hown hK hP 2 rfl rfl 0 (by decide) (hts (.fieldLink RX8 47 "UnibusMachine$Processor" "registers" "[I") (by decide +kernel)) (fun _ h9 => h9) rfl dX8_set_56 ?_
            refine lv_iload_n hx hb dX8_set_59 rfl (lv_at hl 1 rfl) ?_
            refine lv_iload_n hx hb dX8_set_60 rfl (lv_at hl 2 rfl) ?_
            refine va_iast (D := (dC, dI)) hx hb hK hP hD hS 1 0 rfl rfl (vp_in_iff.mpr (by decide)) dX8_set_61 (fun H locs hP hD hS => ?_)
            have hP : va_P (dC, dI) vwCl [(h0, .inr (7, [.ref oB, .ref oP])), (ar, .inl (tr, 8, .inl (upd g (6 : Int32).toNatClampNeg 1024))), (oP, .inr (5, [.ref ar, .ref oB, .ref oS, .int 0, .int 2, .int 0, .int 0, .int 0, .int 0])), (oS, .inr (6, [.int 0, .int (-1)]))] H := hP
            have hD : va_D A [(h0, .inr (7, [.ref oB, .ref oP])), (ar, .inl (tr, 8, .inl (upd g (6 : Int32).toNatClampNeg 1024))), (oP, .inr (5, [.ref ar, .ref oB, .ref oS, .int 0, .int 2, .int 0, .int 0, .int 0, .int 0])), (oS, .inr (6, [.int 0, .int (-1)]))] := hD
            obtain ⟨f10, hf10⟩ : ∃ z : Nat → Int32, z = upd g (6 : Int32).toNatClampNeg 1024 := ⟨_, rfl⟩
            rw [← hf10] at hP hD
            have hf10_6 : f10 (6 : Int32).toNatClampNeg = 1024 := by rw [hf10, pk_us]
            have hP : va_P (dC, dI) vwCl [(h0, .inr (7, [.ref oB, .ref oP])), (ar, .inl (tr, 8, .inl f10)), (oP, .inr (5, [.ref ar, .ref oB, .ref oS, .int 0, .int 2, .int 0, .int 0, .int 0, .int 0])), (oS, .inr (6, [.int 0, .int (-1)]))] H := hP
            have hD : va_D A [(h0, .inr (7, [.ref oB, .ref oP])), (ar, .inl (tr, 8, .inl f10)), (oP, .inr (5, [.ref ar, .ref oB, .ref oS, .int 0, .int 2, .int 0, .int 0, .int 0, .int 0])), (oS, .inr (6, [.int 0, .int (-1)]))] := hD
            have hx11 : f10 (6 : Int32).toNatClampNeg = 1024 := by first | assumption | omega
            have hP9 := hP.sub (ws' := [(h0, .inr (7, [.ref oB, .ref oP])), (oP, .inr (5, [.ref ar, .ref oB, .ref oS, .int 0, .int 2, .int 0, .int 0, .int 0, .int 0])), (oS, .inr (6, [.int 0, .int (-1)])), (ar, .inl (tr, 8, .inl f10))]) [0, 2, 3, 1] rfl
            have hD9 := hD.sub (ws' := [(h0, .inr (7, [.ref oB, .ref oP])), (oP, .inr (5, [.ref ar, .ref oB, .ref oS, .int 0, .int 2, .int 0, .int 0, .int 0, .int 0])), (oS, .inr (6, [.int 0, .int (-1)])), (ar, .inl (tr, 8, .inl f10))]) [0, 2, 3, 1] (by decide) rfl
            have hK9 := hK.sub (tys' := [(tr, .int)]) [0] rfl
            exact W.vret hx hb hr (fun t ht hW => ⟨⟨(f10), rfl, hx11, by rw [ht]; exact hP9, va_K.moved hW.alike hK9, hD9⟩, hS.F ht⟩) hS.2.2 dX8_set_62
          · exact absurd c9 (by decide)
      · exact absurd c5 (by decide)
set_option maxHeartbeats 4000000 in
set_option maxRecDepth 100000 in
theorem c_f_takeStatus (l : Launch) (dC : Nat → ClassId) (dI : Nat → Nat → Nat) (h0 : Nat) (ar : Nat) (oB : Nat) (oS : Nat) (sz : Nat) : Met l yX6_takeStatus wsX6_takeStatus ({ frames := 0, cells := 0, slots := 0, locals := 0 } : Room) (va_Pc [.ref h0, .int 224] (fun U => U.heap.size = sz ∧ va_P (dC, dI) vwCl [(h0, .inr (5, [.ref ar, .ref oB, .ref oS, .int 0, .int 2, .int 0, .int 0, .int 0, .int 0])), (oS, .inr (6, [.int 0, .int (-1)]))] U.heap ∧ va_K (dC, dI) vwCl [] U ∧ va_D (fun _ => True) [(h0, .inr (5, [.ref ar, .ref oB, .ref oS, .int 0, .int 2, .int 0, .int 0, .int 0, .int 0])), (oS, .inr (6, [.int 0, .int (-1)]))])) (va_Qv (fun (u : Unit) => True) (fun (u : Unit) (t : State) => va_P (dC, dI) vwCl [(h0, .inr (5, [.ref ar, .ref oB, .ref oS, .int 0, .int 2, .int 0, .int 0, .int 0, .int 0])), (oS, .inr (6, [.int 224, .int (-1)]))] t.heap ∧ va_K (dC, dI) vwCl [] t ∧ va_D (va_A [(h0, .inr (5, [.ref ar, .ref oB, .ref oS, .int 0, .int 2, .int 0, .int 0, .int 0, .int 0])), (oS, .inr (6, [.int 0, .int (-1)]))] sz) [(h0, .inr (5, [.ref ar, .ref oB, .ref oS, .int 0, .int 2, .int 0, .int 0, .int 0, .int 0])), (oS, .inr (6, [.int 224, .int (-1)]))]) (va_A [(h0, .inr (5, [.ref ar, .ref oB, .ref oS, .int 0, .int 2, .int 0, .int 0, .int 0, .int 0])), (oS, .inr (6, [.int 0, .int (-1)]))] sz)) 0 0 (va_A [(h0, .inr (5, [.ref ar, .ref oB, .ref oS, .int 0, .int 2, .int 0, .int 0, .int 0, .int 0])), (oS, .inr (6, [.int 0, .int (-1)]))] sz) := by
  refine Met.ofW (cc := cX6_takeStatus) (maxL := 3) (ret := none) (by decide) rfl ?_
  intro p e s m args below meth c s₁ B hml hv
  obtain ⟨rfl, hsz, hP, hK, hD0⟩ := hv
  have hx := B.exec
  have hb := B.bytes
  have hr := B.returns
  have hts := atoms_spec (ws := wsX6_takeStatus) B.pre
  have hown : s.vm.findClass RX6 = some m.cls := findClass_of_methodNamed B.named
  have hlocks := B.notSynchronized
  have hD := hD0.self (sz := sz)
  generalize hAe : va_A [(h0, .inr (5, [.ref ar, .ref oB, .ref oS, .int 0, .int 2, .int 0, .int 0, .int 0, .int 0])), (oS, .inr (6, [.int 0, .int (-1)]))] sz = A at hD ⊢
  have hA : ∀ q : Nat, s.heap.size ≤ q → A q := fun q h => by rw [← hAe]; exact Or.inr (by omega)
  have hS0 : ∀ G : Heap, s.heap = G → va_S A s.heap G [] := fun G h => by subst h; exact va_S.rf
  generalize hHe : s.heap = H at hP ⊢
  have hS := hS0 H hHe
  have hP : va_P (dC, dI) vwCl [(h0, .inr (5, [.ref ar, .ref oB, .ref oS, .int 0, .int 2, .int 0, .int 0, .int 0, .int 0])), (oS, .inr (6, [.int 0, .int (-1)]))] H := hP
  have hD : va_D A [(h0, .inr (5, [.ref ar, .ref oB, .ref oS, .int 0, .int 2, .int 0, .int 0, .int 0, .int 0])), (oS, .inr (6, [.int 0, .int (-1)]))] := hD
  have hK : va_K (dC, dI) vwCl [] s := hK
  have hl := lv_entry ([.ref h0, .int 224]) (n := 3) (Nat.le_of_ble_eq_true rfl)
  rw [lg_entry_eq]
  generalize (lg_sl ([.ref h0, .int 224]) ++ List.replicate (3 - (lg_sl ([.ref h0, .int 224])).length) Slot.unset).toArray = ls at hl ⊢
  have hl : lv_has ls 3 [(0, .ref h0), (1, .int 224)] := hl
  refine lv_iload_n hx hb dX6_takeStatus_0 rfl (lv_at hl 1 rfl) ?_
  refine lv_aload_n hx hb dX6_takeStatus_1 rfl (lv_at hl 0 rfl) ?_
  refine va_get (D := (dC, dI)) (ci := 5) (v := .ref oS) (C := RX6) (T := TX6) (N := 9) hx hb hts (by decide +kernel) hown hK hP 0 rfl rfl 2 (by decide) (hts (.fieldLink RX6 43 "UnibusMachine$Processor" "status" "LUnibusMachine$Status;") (by decide +kernel)) (fun _ h9 => h9) rfl dX6_takeStatus_2 ?_
  refine va_get (D := (dC, dI)) (ci := 6) (v := .int 0) (C := RX7) (T := TX7) (N := 2) hx hb hts (by decide +kernel) hown hK hP 1 rfl rfl 0 (by decide) (hts (.fieldLink RX6 44 "UnibusMachine$Status" "now" "I") (by decide +kernel)) (fun _ h9 => h9) rfl dX6_takeStatus_5 ?_
  refine lv_ixor hx hb dX6_takeStatus_8 ?_
  refine lv_topi (fun y1 ey1 => ?_)
  obtain rfl : y1 = 224 := by rw [ey1]; decide
  refine lv_sipush (v := 16384) hx hb dX6_takeStatus_9 (by decide) ?_
  refine lv_iand hx hb dX6_takeStatus_12 ?_
  refine lv_topi (fun y2 ey2 => ?_)
  obtain rfl : y2 = 0 := by rw [ey2]; decide
  refine lv_if_eq (tgt := 40) hx hb dX6_takeStatus_13 (by decide) (fun c3 => ?_) (fun c3 => ?_)
  · skip
    refine lv_aload_n hx hb dX6_takeStatus_40 rfl (lv_at hl 0 rfl) ?_
    refine va_get (D := (dC, dI)) (ci := 5) (v := .ref oS) (C := RX6) (T := TX6) (N := 9) hx hb hts (by decide +kernel) hown hK hP 0 rfl rfl 2 (by decide) (hts (.fieldLink RX6 43 "UnibusMachine$Processor" "status" "LUnibusMachine$Status;") (by decide +kernel)) (fun _ h9 => h9) rfl dX6_takeStatus_41 ?_
    refine lv_iload_n hx hb dX6_takeStatus_44 rfl (lv_at hl 1 rfl) ?_
    refine va_put (D := (dC, dI)) (ci := 6) (v := .int 224) (ty := .int) (C := RX7) (T := TX7) (N := 2) hx hb hts (by decide +kernel) tyX7 tyX7_ok nmX7 hown hK hP hD hS 1 rfl rfl 0 (by decide) (hts (.fieldLink RX6 44 "UnibusMachine$Status" "now" "I") (by decide +kernel)) (fun _ h9 => h9) rfl (by decide +kernel) rfl rfl (Nat.le_of_ble_eq_true rfl) dX6_takeStatus_45 (fun H locs hP hD hS => ?_)
    have hP : va_P (dC, dI) vwCl [(h0, .inr (5, [.ref ar, .ref oB, .ref oS, .int 0, .int 2, .int 0, .int 0, .int 0, .int 0])), (oS, .inr (6, [.int 224, .int (-1)]))] H := hP
    have hD : va_D A [(h0, .inr (5, [.ref ar, .ref oB, .ref oS, .int 0, .int 2, .int 0, .int 0, .int 0, .int 0])), (oS, .inr (6, [.int 224, .int (-1)]))] := hD
    have hP9 := hP.sub (ws' := [(h0, .inr (5, [.ref ar, .ref oB, .ref oS, .int 0, .int 2, .int 0, .int 0, .int 0, .int 0])), (oS, .inr (6, [.int 224, .int (-1)]))]) [0, 1] rfl
    have hD9 := hD.sub (ws' := [(h0, .inr (5, [.ref ar, .ref oB, .ref oS, .int 0, .int 2, .int 0, .int 0, .int 0, .int 0])), (oS, .inr (6, [.int 224, .int (-1)]))]) [0, 1] (by decide) rfl
    have hK9 := hK.sub (tys' := []) [] rfl
    exact W.vret hx hb hr (fun t ht hW => ⟨⟨(), rfl, trivial, by rw [ht]; exact hP9, va_K.moved hW.alike hK9, hD9⟩, hS.F ht⟩) hS.2.2 dX6_takeStatus_48
  · exact absurd c3 (by decide)
set_option maxHeartbeats 4000000 in
set_option maxRecDepth 100000 in
theorem c_f_start (l : Launch) (dC : Nat → ClassId) (dI : Nat → Nat → Nat) (h0 : Nat) (oB : Nat) (oP : Nat) (oS : Nat) (ar : Nat) (tr : ClassId) (g : Nat → Int32) (sz : Nat) (hF0 : g (6 : Int32).toNatClampNeg = 1024) : Met l yX8_start wsX8_start ({ frames := 1, cells := 0, slots := 0, locals := 22 } : Room) (va_Pc [.ref h0, .int 1] (fun U => U.heap.size = sz ∧ va_P (dC, dI) vwCl [(h0, .inr (7, [.ref oB, .ref oP])), (oP, .inr (5, [.ref ar, .ref oB, .ref oS, .int 0, .int 2, .int 0, .int 0, .int 0, .int 0])), (oS, .inr (6, [.int 0, .int (-1)])), (ar, .inl (tr, 8, .inl g))] U.heap ∧ va_K (dC, dI) vwCl [(tr, .int)] U ∧ va_D (fun _ => True) [(h0, .inr (7, [.ref oB, .ref oP])), (oP, .inr (5, [.ref ar, .ref oB, .ref oS, .int 0, .int 2, .int 0, .int 0, .int 0, .int 0])), (oS, .inr (6, [.int 0, .int (-1)])), (ar, .inl (tr, 8, .inl g))])) (va_Qv (fun (u : (Nat → Int32)) => (u (7 : Int32).toNatClampNeg = 1) ∧ (u (6 : Int32).toNatClampNeg = 1024)) (fun (u : (Nat → Int32)) (t : State) => va_P (dC, dI) vwCl [(h0, .inr (7, [.ref oB, .ref oP])), (oP, .inr (5, [.ref ar, .ref oB, .ref oS, .int 0, .int 0, .int 0, .int 0, .int 0, .int 0])), (oS, .inr (6, [.int 224, .int (-1)])), (ar, .inl (tr, 8, .inl u))] t.heap ∧ va_K (dC, dI) vwCl [(tr, .int)] t ∧ va_D (va_A [(h0, .inr (7, [.ref oB, .ref oP])), (oP, .inr (5, [.ref ar, .ref oB, .ref oS, .int 0, .int 2, .int 0, .int 0, .int 0, .int 0])), (oS, .inr (6, [.int 0, .int (-1)])), (ar, .inl (tr, 8, .inl g))] sz) [(h0, .inr (7, [.ref oB, .ref oP])), (oP, .inr (5, [.ref ar, .ref oB, .ref oS, .int 0, .int 0, .int 0, .int 0, .int 0, .int 0])), (oS, .inr (6, [.int 224, .int (-1)])), (ar, .inl (tr, 8, .inl u))]) (va_A [(h0, .inr (7, [.ref oB, .ref oP])), (oP, .inr (5, [.ref ar, .ref oB, .ref oS, .int 0, .int 2, .int 0, .int 0, .int 0, .int 0])), (oS, .inr (6, [.int 0, .int (-1)])), (ar, .inl (tr, 8, .inl g))] sz)) 0 0 (va_A [(h0, .inr (7, [.ref oB, .ref oP])), (oP, .inr (5, [.ref ar, .ref oB, .ref oS, .int 0, .int 2, .int 0, .int 0, .int 0, .int 0])), (oS, .inr (6, [.int 0, .int (-1)])), (ar, .inl (tr, 8, .inl g))] sz) := by
  refine Met.ofW (cc := cX8_start) (maxL := 2) (ret := none) (by decide) rfl ?_
  intro p e s m args below meth c s₁ B hml hv
  obtain ⟨rfl, hsz, hP, hK, hD0⟩ := hv
  have hx := B.exec
  have hb := B.bytes
  have hr := B.returns
  have hts := atoms_spec (ws := wsX8_start) B.pre
  have hown : s.vm.findClass RX8 = some m.cls := findClass_of_methodNamed B.named
  have hlocks := B.notSynchronized
  have hD := hD0.self (sz := sz)
  generalize hAe : va_A [(h0, .inr (7, [.ref oB, .ref oP])), (oP, .inr (5, [.ref ar, .ref oB, .ref oS, .int 0, .int 2, .int 0, .int 0, .int 0, .int 0])), (oS, .inr (6, [.int 0, .int (-1)])), (ar, .inl (tr, 8, .inl g))] sz = A at hD ⊢
  have hA : ∀ q : Nat, s.heap.size ≤ q → A q := fun q h => by rw [← hAe]; exact Or.inr (by omega)
  have hS0 : ∀ G : Heap, s.heap = G → va_S A s.heap G [] := fun G h => by subst h; exact va_S.rf
  generalize hHe : s.heap = H at hP ⊢
  have hS := hS0 H hHe
  have hP : va_P (dC, dI) vwCl [(h0, .inr (7, [.ref oB, .ref oP])), (oP, .inr (5, [.ref ar, .ref oB, .ref oS, .int 0, .int 2, .int 0, .int 0, .int 0, .int 0])), (oS, .inr (6, [.int 0, .int (-1)])), (ar, .inl (tr, 8, .inl g))] H := hP
  have hD : va_D A [(h0, .inr (7, [.ref oB, .ref oP])), (oP, .inr (5, [.ref ar, .ref oB, .ref oS, .int 0, .int 2, .int 0, .int 0, .int 0, .int 0])), (oS, .inr (6, [.int 0, .int (-1)])), (ar, .inl (tr, 8, .inl g))] := hD
  have hK : va_K (dC, dI) vwCl [(tr, .int)] s := hK
  have hl := lv_entry ([.ref h0, .int 1]) (n := 2) (Nat.le_of_ble_eq_true rfl)
  rw [lg_entry_eq]
  generalize (lg_sl ([.ref h0, .int 1]) ++ List.replicate (2 - (lg_sl ([.ref h0, .int 1])).length) Slot.unset).toArray = ls at hl ⊢
  have hl : lv_has ls 2 [(0, .ref h0), (1, .int 1)] := hl
  refine lv_iload_n hx hb dX8_start_0 rfl (lv_at hl 1 rfl) ?_
  have hPc := hP.sub (ws' := []) [] rfl
  have hDc := hD.sub (ws' := []) [] (by decide) rfl
  have hKc := hK.sub (tys' := []) [] rfl
  have hFc := va_free (wc := []) hD hS hA [] rfl
  refine va_calli (va_runS (As := [.int 1]) (rest := []) ⟨hx, hb, hml, hown, hts⟩ (c_f_isWord1 l dC dI  H.size) (va_cwS 1 hts gX8_start_X8_isWord rfl rfl rfl (by decide +kernel) ⟨Nat.le_of_ble_eq_true rfl, Nat.le_of_ble_eq_true rfl⟩) ⟨fun a U g mk q => by obtain ⟨q0, q1, qP, qK, qD⟩ := q; exact ⟨q0, q1, qP, va_K.moved (u := U) (U := U.calling g mk a) (Vm.Alike.refl U.vm) qK, qD⟩, fun U hU hW => ⟨rfl, by rw [hU], by rw [hU]; exact hPc, va_K.moved hW.alike hKc, hDc.weaken (fun _ _ _ _ => trivial)⟩⟩ rfl rfl hl.1 rfl (lv_room (Nat.le_of_ble_eq_true rfl)) dX8_start_1 ⟨Nat.le_of_ble_eq_true rfl, Nat.le_of_ble_eq_true rfl⟩) hS (fun q _ h => hFc q h) hFc (fun r1 u2 t H1 locs ht hvm hw hB hz1 hk1 hS => ?_)
  obtain ⟨hP1, hK1, hD1⟩ := hB
  rw [ht] at hP1
  have hK1 := va_K.moved hvm.symm hK1
  try dsimp only at hw
  obtain ⟨hP, hD⟩ := va_join (wr := [(h0, .inr (7, [.ref oB, .ref oP])), (oP, .inr (5, [.ref ar, .ref oB, .ref oS, .int 0, .int 2, .int 0, .int 0, .int 0, .int 0])), (oS, .inr (6, [.int 0, .int (-1)])), (ar, .inl (tr, 8, .inl g))]) (w1 := []) hP hD [] [0, 1, 2, 3] rfl rfl (by decide) (by decide) hk1 hFc hP1 hD1
  have hK := (hK.sub (tys' := [(tr, .int)]) [0] rfl).app hK1
  generalize H1 = H at hP hS ⊢
  have hP : va_P (dC, dI) vwCl [(h0, .inr (7, [.ref oB, .ref oP])), (oP, .inr (5, [.ref ar, .ref oB, .ref oS, .int 0, .int 2, .int 0, .int 0, .int 0, .int 0])), (oS, .inr (6, [.int 0, .int (-1)])), (ar, .inl (tr, 8, .inl g))] H := hP
  have hD : va_D A [(h0, .inr (7, [.ref oB, .ref oP])), (oP, .inr (5, [.ref ar, .ref oB, .ref oS, .int 0, .int 2, .int 0, .int 0, .int 0, .int 0])), (oS, .inr (6, [.int 0, .int (-1)])), (ar, .inl (tr, 8, .inl g))] := hD
  have hK : va_K (dC, dI) vwCl [(tr, .int)] s := hK
  refine W.widen (k := 0) (n := 0) (Nat.le_of_ble_eq_true rfl) (Nat.le_of_ble_eq_true rfl) ?_
  obtain rfl := hw
  refine lv_if_ne (tgt := 15) hx hb dX8_start_4 (by decide) (fun c3 => ?_) (fun c3 => ?_)
  · skip
    refine lv_aload_n hx hb dX8_start_15 rfl (lv_at hl 0 rfl) ?_
    refine va_get (D := (dC, dI)) (ci := 7) (v := .ref oP) (C := RX8) (T := TX8) (N := 2) hx hb hts (by decide +kernel) hown hK hP 0 rfl rfl 1 (by decide) (hts (.fieldLink RX8 21 "UnibusMachine" "processor" "LUnibusMachine$Processor;") (by decide +kernel)) (fun _ h9 => h9) rfl dX8_start_16 ?_
    refine lv_sipush (v := 224) hx hb dX8_start_19 (by decide) ?_
    have hPc := hP.sub (ws' := [(oP, .inr (5, [.ref ar, .ref oB, .ref oS, .int 0, .int 2, .int 0, .int 0, .int 0, .int 0])), (oS, .inr (6, [.int 0, .int (-1)]))]) [1, 2] rfl
    have hDc := hD.sub (ws' := [(oP, .inr (5, [.ref ar, .ref oB, .ref oS, .int 0, .int 2, .int 0, .int 0, .int 0, .int 0])), (oS, .inr (6, [.int 0, .int (-1)]))]) [1, 2] (by decide) rfl
    have hKc := hK.sub (tys' := []) [] rfl
    have hFc := va_free (wc := [(oP, .inr (5, [.ref ar, .ref oB, .ref oS, .int 0, .int 2, .int 0, .int 0, .int 0, .int 0])), (oS, .inr (6, [.int 0, .int (-1)]))]) hD hS hA [1, 2] rfl
    refine va_callv (va_runV (As := [.int 224]) (rest := []) ⟨hx, hb, hml, hown, hts⟩ (c_f_takeStatus l dC dI oP ar oB oS H.size) (cwV 1 hts gX8_start_X6_takeStatus rfl rfl rfl (by decide +kernel) ⟨Nat.le_of_ble_eq_true rfl, Nat.le_of_ble_eq_true rfl⟩) ⟨fun a U g mk q => by obtain ⟨q0, q1, qP, qK, qD⟩ := q; exact ⟨q0, q1, qP, va_K.moved (u := U) (U := U.calling g mk a) (Vm.Alike.refl U.vm) qK, qD⟩, va_recv hKc hPc (ci := 5) (q0 := 0) rfl rfl, fun U hU hW => ⟨rfl, by rw [hU], by rw [hU]; exact hPc, va_K.moved hW.alike hKc, hDc.weaken (fun _ _ _ _ => trivial)⟩⟩ rfl rfl hl.1 rfl (lv_room (Nat.le_of_ble_eq_true rfl)) dX8_start_22 ⟨Nat.le_of_ble_eq_true rfl, Nat.le_of_ble_eq_true rfl⟩) hS (fun q _ h => hFc q h) hFc (fun u5 t H1 locs ht hvm hw hB hz1 hk1 hS => ?_)
    obtain ⟨hP1, hK1, hD1⟩ := hB
    rw [ht] at hP1
    have hK1 := va_K.moved hvm.symm hK1
    try dsimp only at hw
    obtain ⟨hP, hD⟩ := va_join (wr := [(h0, .inr (7, [.ref oB, .ref oP])), (ar, .inl (tr, 8, .inl g))]) (w1 := [(oP, .inr (5, [.ref ar, .ref oB, .ref oS, .int 0, .int 2, .int 0, .int 0, .int 0, .int 0])), (oS, .inr (6, [.int 224, .int (-1)]))]) hP hD [1, 2] [0, 3] rfl rfl (by decide) (by decide) hk1 hFc hP1 hD1
    have hK := (hK.sub (tys' := [(tr, .int)]) [0] rfl).app hK1
    generalize H1 = H at hP hS ⊢
    have hP : va_P (dC, dI) vwCl [(h0, .inr (7, [.ref oB, .ref oP])), (ar, .inl (tr, 8, .inl g)), (oP, .inr (5, [.ref ar, .ref oB, .ref oS, .int 0, .int 2, .int 0, .int 0, .int 0, .int 0])), (oS, .inr (6, [.int 224, .int (-1)]))] H := hP
    have hD : va_D A [(h0, .inr (7, [.ref oB, .ref oP])), (ar, .inl (tr, 8, .inl g)), (oP, .inr (5, [.ref ar, .ref oB, .ref oS, .int 0, .int 2, .int 0, .int 0, .int 0, .int 0])), (oS, .inr (6, [.int 224, .int (-1)]))] := hD
    have hK : va_K (dC, dI) vwCl [(tr, .int)] s := hK
    refine W.widen (k := 0) (n := 0) (Nat.le_of_ble_eq_true rfl) (Nat.le_of_ble_eq_true rfl) ?_
    refine lv_aload_n hx hb dX8_start_25 rfl (lv_at hl 0 rfl) ?_
    refine va_get (D := (dC, dI)) (ci := 7) (v := .ref oP) (C := RX8) (T := TX8) (N := 2) hx hb hts (by decide +kernel) hown hK hP 0 rfl rfl 1 (by decide) (hts (.fieldLink RX8 21 "UnibusMachine" "processor" "LUnibusMachine$Processor;") (by decide +kernel)) (fun _ h9 => h9) rfl dX8_start_26 ?_
    refine va_get (D := (dC, dI)) (ci := 5) (v := .ref ar) (C := RX6) (T := TX6) (N := 9) hx hb hts (by decide +kernel) hown hK hP 2 rfl rfl 0 (by decide) (hts (.fieldLink RX8 47 "UnibusMachine$Processor" "registers" "[I") (by decide +kernel)) (fun _ h9 => h9) rfl dX8_start_29 ?_
    refine lv_bipush (v := 7) hx hb dX8_start_32 (by decide) ?_
    refine lv_iload_n hx hb dX8_start_34 rfl (lv_at hl 1 rfl) ?_
    refine va_iast (D := (dC, dI)) hx hb hK hP hD hS 1 0 rfl rfl (vp_in_iff.mpr (by decide)) dX8_start_35 (fun H locs hP hD hS => ?_)
    have hP : va_P (dC, dI) vwCl [(h0, .inr (7, [.ref oB, .ref oP])), (ar, .inl (tr, 8, .inl (upd g (7 : Int32).toNatClampNeg 1))), (oP, .inr (5, [.ref ar, .ref oB, .ref oS, .int 0, .int 2, .int 0, .int 0, .int 0, .int 0])), (oS, .inr (6, [.int 224, .int (-1)]))] H := hP
    have hD : va_D A [(h0, .inr (7, [.ref oB, .ref oP])), (ar, .inl (tr, 8, .inl (upd g (7 : Int32).toNatClampNeg 1))), (oP, .inr (5, [.ref ar, .ref oB, .ref oS, .int 0, .int 2, .int 0, .int 0, .int 0, .int 0])), (oS, .inr (6, [.int 224, .int (-1)]))] := hD
    obtain ⟨f6, hf6⟩ : ∃ z : Nat → Int32, z = upd g (7 : Int32).toNatClampNeg 1 := ⟨_, rfl⟩
    rw [← hf6] at hP hD
    have hf6_6 : f6 (6 : Int32).toNatClampNeg = 1024 := by rw [hf6, pk_un (by decide)]; assumption
    have hf6_7 : f6 (7 : Int32).toNatClampNeg = 1 := by rw [hf6, pk_us]
    have hP : va_P (dC, dI) vwCl [(h0, .inr (7, [.ref oB, .ref oP])), (ar, .inl (tr, 8, .inl f6)), (oP, .inr (5, [.ref ar, .ref oB, .ref oS, .int 0, .int 2, .int 0, .int 0, .int 0, .int 0])), (oS, .inr (6, [.int 224, .int (-1)]))] H := hP
    have hD : va_D A [(h0, .inr (7, [.ref oB, .ref oP])), (ar, .inl (tr, 8, .inl f6)), (oP, .inr (5, [.ref ar, .ref oB, .ref oS, .int 0, .int 2, .int 0, .int 0, .int 0, .int 0])), (oS, .inr (6, [.int 224, .int (-1)]))] := hD
    refine lv_aload_n hx hb dX8_start_36 rfl (lv_at hl 0 rfl) ?_
    refine va_get (D := (dC, dI)) (ci := 7) (v := .ref oP) (C := RX8) (T := TX8) (N := 2) hx hb hts (by decide +kernel) hown hK hP 0 rfl rfl 1 (by decide) (hts (.fieldLink RX8 21 "UnibusMachine" "processor" "LUnibusMachine$Processor;") (by decide +kernel)) (fun _ h9 => h9) rfl dX8_start_37 ?_
    refine lv_iconst (v := 0) hx hb dX8_start_40 (by decide) ?_
    refine va_put (D := (dC, dI)) (ci := 5) (v := .int 0) (ty := .int) (C := RX6) (T := TX6) (N := 9) hx hb hts (by decide +kernel) tyX6 tyX6_ok nmX6 hown hK hP hD hS 2 rfl rfl 4 (by decide) (hts (.fieldLink RX8 63 "UnibusMachine$Processor" "halted" "I") (by decide +kernel)) (fun _ h9 => h9) rfl (by decide +kernel) rfl rfl (Nat.le_of_ble_eq_true rfl) dX8_start_41 (fun H locs hP hD hS => ?_)
    have hP : va_P (dC, dI) vwCl [(h0, .inr (7, [.ref oB, .ref oP])), (ar, .inl (tr, 8, .inl f6)), (oP, .inr (5, [.ref ar, .ref oB, .ref oS, .int 0, .int 0, .int 0, .int 0, .int 0, .int 0])), (oS, .inr (6, [.int 224, .int (-1)]))] H := hP
    have hD : va_D A [(h0, .inr (7, [.ref oB, .ref oP])), (ar, .inl (tr, 8, .inl f6)), (oP, .inr (5, [.ref ar, .ref oB, .ref oS, .int 0, .int 0, .int 0, .int 0, .int 0, .int 0])), (oS, .inr (6, [.int 224, .int (-1)]))] := hD
    refine lv_aload_n hx hb dX8_start_44 rfl (lv_at hl 0 rfl) ?_
    refine va_get (D := (dC, dI)) (ci := 7) (v := .ref oP) (C := RX8) (T := TX8) (N := 2) hx hb hts (by decide +kernel) hown hK hP 0 rfl rfl 1 (by decide) (hts (.fieldLink RX8 21 "UnibusMachine" "processor" "LUnibusMachine$Processor;") (by decide +kernel)) (fun _ h9 => h9) rfl dX8_start_45 ?_
    refine lv_iconst (v := 0) hx hb dX8_start_48 (by decide) ?_
    refine va_put (D := (dC, dI)) (ci := 5) (v := .int 0) (ty := .boolean) (C := RX6) (T := TX6) (N := 9) hx hb hts (by decide +kernel) tyX6 tyX6_ok nmX6 hown hK hP hD hS 2 rfl rfl 5 (by decide) (hts (.fieldLink RX8 66 "UnibusMachine$Processor" "waiting" "Z") (by decide +kernel)) (fun _ h9 => h9) rfl (by decide +kernel) (by decide) rfl (Nat.le_of_ble_eq_true rfl) dX8_start_49 (fun H locs hP hD hS => ?_)
    have hP : va_P (dC, dI) vwCl [(h0, .inr (7, [.ref oB, .ref oP])), (ar, .inl (tr, 8, .inl f6)), (oP, .inr (5, [.ref ar, .ref oB, .ref oS, .int 0, .int 0, .int 0, .int 0, .int 0, .int 0])), (oS, .inr (6, [.int 224, .int (-1)]))] H := hP
    have hD : va_D A [(h0, .inr (7, [.ref oB, .ref oP])), (ar, .inl (tr, 8, .inl f6)), (oP, .inr (5, [.ref ar, .ref oB, .ref oS, .int 0, .int 0, .int 0, .int 0, .int 0, .int 0])), (oS, .inr (6, [.int 224, .int (-1)]))] := hD
    have hx7 : f6 (7 : Int32).toNatClampNeg = 1 := by first | assumption | omega
    have hx8 : f6 (6 : Int32).toNatClampNeg = 1024 := by first | assumption | omega
    have hP9 := hP.sub (ws' := [(h0, .inr (7, [.ref oB, .ref oP])), (oP, .inr (5, [.ref ar, .ref oB, .ref oS, .int 0, .int 0, .int 0, .int 0, .int 0, .int 0])), (oS, .inr (6, [.int 224, .int (-1)])), (ar, .inl (tr, 8, .inl f6))]) [0, 2, 3, 1] rfl
    have hD9 := hD.sub (ws' := [(h0, .inr (7, [.ref oB, .ref oP])), (oP, .inr (5, [.ref ar, .ref oB, .ref oS, .int 0, .int 0, .int 0, .int 0, .int 0, .int 0])), (oS, .inr (6, [.int 224, .int (-1)])), (ar, .inl (tr, 8, .inl f6))]) [0, 2, 3, 1] (by decide) rfl
    have hK9 := hK.sub (tys' := [(tr, .int)]) [0] rfl
    exact W.vret hx hb hr (fun t ht hW => ⟨⟨(f6), rfl, ⟨hx7, hx8⟩, by rw [ht]; exact hP9, va_K.moved hW.alike hK9, hD9⟩, hS.F ht⟩) hS.2.2 dX8_start_52
  · exact absurd c3 (by decide)
