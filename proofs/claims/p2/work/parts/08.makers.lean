set_option maxHeartbeats 4000000 in
set_option maxRecDepth 100000 in
theorem c_k_Line_K (l : Launch) (dC : Nat → ClassId) (dI : Nat → Nat → Nat) (h0 : Nat) (sz : Nat) : Met l yX3_init wsX3_init ({ frames := 1, cells := 0, slots := 0, locals := 12 } : Room) (va_Pc [.ref h0] (fun U => U.heap.size = sz ∧ va_P (dC, dI) vwCl [(h0, .inr (2, [.int 0, .int 0, .int 0]))] U.heap ∧ va_K (dC, dI) vwCl [] U ∧ va_D (fun _ => True) [(h0, .inr (2, [.int 0, .int 0, .int 0]))])) (va_Qv (fun (u : Unit) => True) (fun (u : Unit) (t : State) => va_P (dC, dI) vwCl [(h0, .inr (2, [.int 0, .int 0, .int 0]))] t.heap ∧ va_K (dC, dI) vwCl [] t ∧ va_D (va_A [(h0, .inr (2, [.int 0, .int 0, .int 0]))] sz) [(h0, .inr (2, [.int 0, .int 0, .int 0]))]) (va_A [(h0, .inr (2, [.int 0, .int 0, .int 0]))] sz)) 0 0 (va_A [(h0, .inr (2, [.int 0, .int 0, .int 0]))] sz) := by
  refine Met.ofW (cc := cX3_init) (maxL := 1) (ret := none) (by decide) rfl ?_
  intro p e s m args below meth c s₁ B hml hv
  obtain ⟨rfl, hsz, hP, hK, hD0⟩ := hv
  have hx := B.exec
  have hb := B.bytes
  have hr := B.returns
  have hts := atoms_spec (ws := wsX3_init) B.pre
  have hown : s.vm.findClass RX3 = some m.cls := findClass_of_methodNamed B.named
  have hlocks := B.notSynchronized
  have hin : meth.name = "<init>" := (name_of_methodNamed B.named B.method).1
  have hD := hD0.self (sz := sz)
  generalize hAe : va_A [(h0, .inr (2, [.int 0, .int 0, .int 0]))] sz = A at hD ⊢
  have hA : ∀ q : Nat, s.heap.size ≤ q → A q := fun q h => by rw [← hAe]; exact Or.inr (by omega)
  have hS0 : ∀ G : Heap, s.heap = G → va_S A s.heap G [] := fun G h => by subst h; exact va_S.rf
  generalize hHe : s.heap = H at hP ⊢
  have hS := hS0 H hHe
  have hP : va_P (dC, dI) vwCl [(h0, .inr (2, [.int 0, .int 0, .int 0]))] H := hP
  have hD : va_D A [(h0, .inr (2, [.int 0, .int 0, .int 0]))] := hD
  have hK : va_K (dC, dI) vwCl [] s := hK
  have hl := lv_entry ([.ref h0]) (n := 1) (Nat.le_of_ble_eq_true rfl)
  rw [lg_entry_eq]
  generalize (lg_sl ([.ref h0]) ++ List.replicate (1 - (lg_sl ([.ref h0])).length) Slot.unset).toArray = ls at hl ⊢
  have hl : lv_has ls 1 [(0, .ref h0)] := hl
  refine lv_aload_n hx hb dX3_init_0 rfl (lv_at hl 0 rfl) ?_
  refine W.objInit hx hb hown (hts (.methodLink RX3 3 objectInit) (by decide +kernel)) (hts (.instanceMethod objectInit) (by decide +kernel)) (hts _ (List.mem_of_getElem? (i := 3) rfl)) rfl (by rw [hml]; exact hl.1) rfl dX3_init_1 (Nat.le_of_ble_eq_true rfl) (Nat.le_of_ble_eq_true rfl) ?_
  refine W.eq (g2 := F0 m 4 ls []) rfl ?_
  refine lv_aload_n hx hb dX3_init_4 rfl (lv_at hl 0 rfl) ?_
  refine lv_iconst (v := 0) hx hb dX3_init_5 (by decide) ?_
  refine va_put (D := (dC, dI)) (ci := 2) (v := .int 0) (ty := .int) (C := RX2) (T := TX2) (N := 3) hx hb hts (by decide +kernel) tyX2 tyX2_ok nmX2 hown hK hP hD hS 0 rfl rfl 0 (by decide) (hts (.fieldLink RX3 9 "UnibusMachine$Line" "bits" "I") (by decide +kernel)) (fun _ h9 => h9) rfl (by decide +kernel) rfl rfl (Nat.le_of_ble_eq_true rfl) dX3_init_6 (fun H locs hP hD hS => ?_)
  have hP : va_P (dC, dI) vwCl [(h0, .inr (2, [.int 0, .int 0, .int 0]))] H := hP
  have hD : va_D A [(h0, .inr (2, [.int 0, .int 0, .int 0]))] := hD
  refine lv_aload_n hx hb dX3_init_9 rfl (lv_at hl 0 rfl) ?_
  refine lv_iconst (v := 0) hx hb dX3_init_10 (by decide) ?_
  refine va_put (D := (dC, dI)) (ci := 2) (v := .int 0) (ty := .boolean) (C := RX2) (T := TX2) (N := 3) hx hb hts (by decide +kernel) tyX2 tyX2_ok nmX2 hown hK hP hD hS 0 rfl rfl 1 (by decide) (hts (.fieldLink RX3 13 "UnibusMachine$Line" "wanting" "Z") (by decide +kernel)) (fun _ h9 => h9) rfl (by decide +kernel) (by decide) rfl (Nat.le_of_ble_eq_true rfl) dX3_init_11 (fun H locs hP hD hS => ?_)
  have hP : va_P (dC, dI) vwCl [(h0, .inr (2, [.int 0, .int 0, .int 0]))] H := hP
  have hD : va_D A [(h0, .inr (2, [.int 0, .int 0, .int 0]))] := hD
  have hP9 := hP.sub (ws' := [(h0, .inr (2, [.int 0, .int 0, .int 0]))]) [0] rfl
  have hD9 := hD.sub (ws' := [(h0, .inr (2, [.int 0, .int 0, .int 0]))]) [0] (by decide) rfl
  have hK9 := hK.sub (tys' := []) [] rfl
  exact W.vret hx hb hr (fun t ht hW => ⟨⟨(), rfl, trivial, by rw [ht]; exact hP9, va_K.moved hW.alike hK9, hD9⟩, hS.F ht⟩) hS.2.2 dX3_init_14
set_option maxHeartbeats 4000000 in
set_option maxRecDepth 100000 in
theorem c_k_Line_P (l : Launch) (dC : Nat → ClassId) (dI : Nat → Nat → Nat) (h0 : Nat) (sz : Nat) : Met l yX3_init wsX3_init ({ frames := 1, cells := 0, slots := 0, locals := 12 } : Room) (va_Pc [.ref h0] (fun U => U.heap.size = sz ∧ va_P (dC, dI) vwCl [(h0, .inr (4, [.int 0, .int 0, .null, .int 0, .int 0, .int 0, .int 0]))] U.heap ∧ va_K (dC, dI) vwCl [] U ∧ va_D (fun _ => True) [(h0, .inr (4, [.int 0, .int 0, .null, .int 0, .int 0, .int 0, .int 0]))])) (va_Qv (fun (u : Unit) => True) (fun (u : Unit) (t : State) => va_P (dC, dI) vwCl [(h0, .inr (4, [.int 0, .int 0, .null, .int 0, .int 0, .int 0, .int 0]))] t.heap ∧ va_K (dC, dI) vwCl [] t ∧ va_D (va_A [(h0, .inr (4, [.int 0, .int 0, .null, .int 0, .int 0, .int 0, .int 0]))] sz) [(h0, .inr (4, [.int 0, .int 0, .null, .int 0, .int 0, .int 0, .int 0]))]) (va_A [(h0, .inr (4, [.int 0, .int 0, .null, .int 0, .int 0, .int 0, .int 0]))] sz)) 0 0 (va_A [(h0, .inr (4, [.int 0, .int 0, .null, .int 0, .int 0, .int 0, .int 0]))] sz) := by
  refine Met.ofW (cc := cX3_init) (maxL := 1) (ret := none) (by decide) rfl ?_
  intro p e s m args below meth c s₁ B hml hv
  obtain ⟨rfl, hsz, hP, hK, hD0⟩ := hv
  have hx := B.exec
  have hb := B.bytes
  have hr := B.returns
  have hts := atoms_spec (ws := wsX3_init) B.pre
  have hown : s.vm.findClass RX3 = some m.cls := findClass_of_methodNamed B.named
  have hlocks := B.notSynchronized
  have hin : meth.name = "<init>" := (name_of_methodNamed B.named B.method).1
  have hD := hD0.self (sz := sz)
  generalize hAe : va_A [(h0, .inr (4, [.int 0, .int 0, .null, .int 0, .int 0, .int 0, .int 0]))] sz = A at hD ⊢
  have hA : ∀ q : Nat, s.heap.size ≤ q → A q := fun q h => by rw [← hAe]; exact Or.inr (by omega)
  have hS0 : ∀ G : Heap, s.heap = G → va_S A s.heap G [] := fun G h => by subst h; exact va_S.rf
  generalize hHe : s.heap = H at hP ⊢
  have hS := hS0 H hHe
  have hP : va_P (dC, dI) vwCl [(h0, .inr (4, [.int 0, .int 0, .null, .int 0, .int 0, .int 0, .int 0]))] H := hP
  have hD : va_D A [(h0, .inr (4, [.int 0, .int 0, .null, .int 0, .int 0, .int 0, .int 0]))] := hD
  have hK : va_K (dC, dI) vwCl [] s := hK
  have hl := lv_entry ([.ref h0]) (n := 1) (Nat.le_of_ble_eq_true rfl)
  rw [lg_entry_eq]
  generalize (lg_sl ([.ref h0]) ++ List.replicate (1 - (lg_sl ([.ref h0])).length) Slot.unset).toArray = ls at hl ⊢
  have hl : lv_has ls 1 [(0, .ref h0)] := hl
  refine lv_aload_n hx hb dX3_init_0 rfl (lv_at hl 0 rfl) ?_
  refine W.objInit hx hb hown (hts (.methodLink RX3 3 objectInit) (by decide +kernel)) (hts (.instanceMethod objectInit) (by decide +kernel)) (hts _ (List.mem_of_getElem? (i := 3) rfl)) rfl (by rw [hml]; exact hl.1) rfl dX3_init_1 (Nat.le_of_ble_eq_true rfl) (Nat.le_of_ble_eq_true rfl) ?_
  refine W.eq (g2 := F0 m 4 ls []) rfl ?_
  refine lv_aload_n hx hb dX3_init_4 rfl (lv_at hl 0 rfl) ?_
  refine lv_iconst (v := 0) hx hb dX3_init_5 (by decide) ?_
  refine va_put (D := (dC, dI)) (ci := 4) (v := .int 0) (ty := .int) (C := RX5) (T := TX5) (N := 7) hx hb hts (by decide +kernel) tyX5 tyX5_ok nmX5 hown hK hP hD hS 0 rfl rfl 0 (by decide) (hts (.fieldLink RX3 9 "UnibusMachine$Line" "bits" "I") (by decide +kernel)) (fun _ h9 => h9) rfl (by decide +kernel) rfl rfl (Nat.le_of_ble_eq_true rfl) dX3_init_6 (fun H locs hP hD hS => ?_)
  have hP : va_P (dC, dI) vwCl [(h0, .inr (4, [.int 0, .int 0, .null, .int 0, .int 0, .int 0, .int 0]))] H := hP
  have hD : va_D A [(h0, .inr (4, [.int 0, .int 0, .null, .int 0, .int 0, .int 0, .int 0]))] := hD
  refine lv_aload_n hx hb dX3_init_9 rfl (lv_at hl 0 rfl) ?_
  refine lv_iconst (v := 0) hx hb dX3_init_10 (by decide) ?_
  refine va_put (D := (dC, dI)) (ci := 4) (v := .int 0) (ty := .boolean) (C := RX5) (T := TX5) (N := 7) hx hb hts (by decide +kernel) tyX5 tyX5_ok nmX5 hown hK hP hD hS 0 rfl rfl 1 (by decide) (hts (.fieldLink RX3 13 "UnibusMachine$Line" "wanting" "Z") (by decide +kernel)) (fun _ h9 => h9) rfl (by decide +kernel) (by decide) rfl (Nat.le_of_ble_eq_true rfl) dX3_init_11 (fun H locs hP hD hS => ?_)
  have hP : va_P (dC, dI) vwCl [(h0, .inr (4, [.int 0, .int 0, .null, .int 0, .int 0, .int 0, .int 0]))] H := hP
  have hD : va_D A [(h0, .inr (4, [.int 0, .int 0, .null, .int 0, .int 0, .int 0, .int 0]))] := hD
  have hP9 := hP.sub (ws' := [(h0, .inr (4, [.int 0, .int 0, .null, .int 0, .int 0, .int 0, .int 0]))]) [0] rfl
  have hD9 := hD.sub (ws' := [(h0, .inr (4, [.int 0, .int 0, .null, .int 0, .int 0, .int 0, .int 0]))]) [0] (by decide) rfl
  have hK9 := hK.sub (tys' := []) [] rfl
  exact W.vret hx hb hr (fun t ht hW => ⟨⟨(), rfl, trivial, by rw [ht]; exact hP9, va_K.moved hW.alike hK9, hD9⟩, hS.F ht⟩) hS.2.2 dX3_init_14
set_option maxHeartbeats 4000000 in
set_option maxRecDepth 100000 in
theorem c_k_Line_D (l : Launch) (dC : Nat → ClassId) (dI : Nat → Nat → Nat) (h0 : Nat) (sz : Nat) : Met l yX3_init wsX3_init ({ frames := 1, cells := 0, slots := 0, locals := 12 } : Room) (va_Pc [.ref h0] (fun U => U.heap.size = sz ∧ va_P (dC, dI) vwCl [(h0, .inr (1, [.int 0, .int 0, .null, .int 0, .int 0, .int 0, .int 0, .int 0, .int 0, .int 0]))] U.heap ∧ va_K (dC, dI) vwCl [] U ∧ va_D (fun _ => True) [(h0, .inr (1, [.int 0, .int 0, .null, .int 0, .int 0, .int 0, .int 0, .int 0, .int 0, .int 0]))])) (va_Qv (fun (u : Unit) => True) (fun (u : Unit) (t : State) => va_P (dC, dI) vwCl [(h0, .inr (1, [.int 0, .int 0, .null, .int 0, .int 0, .int 0, .int 0, .int 0, .int 0, .int 0]))] t.heap ∧ va_K (dC, dI) vwCl [] t ∧ va_D (va_A [(h0, .inr (1, [.int 0, .int 0, .null, .int 0, .int 0, .int 0, .int 0, .int 0, .int 0, .int 0]))] sz) [(h0, .inr (1, [.int 0, .int 0, .null, .int 0, .int 0, .int 0, .int 0, .int 0, .int 0, .int 0]))]) (va_A [(h0, .inr (1, [.int 0, .int 0, .null, .int 0, .int 0, .int 0, .int 0, .int 0, .int 0, .int 0]))] sz)) 0 0 (va_A [(h0, .inr (1, [.int 0, .int 0, .null, .int 0, .int 0, .int 0, .int 0, .int 0, .int 0, .int 0]))] sz) := by
  refine Met.ofW (cc := cX3_init) (maxL := 1) (ret := none) (by decide) rfl ?_
  intro p e s m args below meth c s₁ B hml hv
  obtain ⟨rfl, hsz, hP, hK, hD0⟩ := hv
  have hx := B.exec
  have hb := B.bytes
  have hr := B.returns
  have hts := atoms_spec (ws := wsX3_init) B.pre
  have hown : s.vm.findClass RX3 = some m.cls := findClass_of_methodNamed B.named
  have hlocks := B.notSynchronized
  have hin : meth.name = "<init>" := (name_of_methodNamed B.named B.method).1
  have hD := hD0.self (sz := sz)
  generalize hAe : va_A [(h0, .inr (1, [.int 0, .int 0, .null, .int 0, .int 0, .int 0, .int 0, .int 0, .int 0, .int 0]))] sz = A at hD ⊢
  have hA : ∀ q : Nat, s.heap.size ≤ q → A q := fun q h => by rw [← hAe]; exact Or.inr (by omega)
  have hS0 : ∀ G : Heap, s.heap = G → va_S A s.heap G [] := fun G h => by subst h; exact va_S.rf
  generalize hHe : s.heap = H at hP ⊢
  have hS := hS0 H hHe
  have hP : va_P (dC, dI) vwCl [(h0, .inr (1, [.int 0, .int 0, .null, .int 0, .int 0, .int 0, .int 0, .int 0, .int 0, .int 0]))] H := hP
  have hD : va_D A [(h0, .inr (1, [.int 0, .int 0, .null, .int 0, .int 0, .int 0, .int 0, .int 0, .int 0, .int 0]))] := hD
  have hK : va_K (dC, dI) vwCl [] s := hK
  have hl := lv_entry ([.ref h0]) (n := 1) (Nat.le_of_ble_eq_true rfl)
  rw [lg_entry_eq]
  generalize (lg_sl ([.ref h0]) ++ List.replicate (1 - (lg_sl ([.ref h0])).length) Slot.unset).toArray = ls at hl ⊢
  have hl : lv_has ls 1 [(0, .ref h0)] := hl
  refine lv_aload_n hx hb dX3_init_0 rfl (lv_at hl 0 rfl) ?_
  refine W.objInit hx hb hown (hts (.methodLink RX3 3 objectInit) (by decide +kernel)) (hts (.instanceMethod objectInit) (by decide +kernel)) (hts _ (List.mem_of_getElem? (i := 3) rfl)) rfl (by rw [hml]; exact hl.1) rfl dX3_init_1 (Nat.le_of_ble_eq_true rfl) (Nat.le_of_ble_eq_true rfl) ?_
  refine W.eq (g2 := F0 m 4 ls []) rfl ?_
  refine lv_aload_n hx hb dX3_init_4 rfl (lv_at hl 0 rfl) ?_
  refine lv_iconst (v := 0) hx hb dX3_init_5 (by decide) ?_
  refine va_put (D := (dC, dI)) (ci := 1) (v := .int 0) (ty := .int) (C := RX1) (T := TX1) (N := 10) hx hb hts (by decide +kernel) tyX1 tyX1_ok nmX1 hown hK hP hD hS 0 rfl rfl 0 (by decide) (hts (.fieldLink RX3 9 "UnibusMachine$Line" "bits" "I") (by decide +kernel)) (fun _ h9 => h9) rfl (by decide +kernel) rfl rfl (Nat.le_of_ble_eq_true rfl) dX3_init_6 (fun H locs hP hD hS => ?_)
  have hP : va_P (dC, dI) vwCl [(h0, .inr (1, [.int 0, .int 0, .null, .int 0, .int 0, .int 0, .int 0, .int 0, .int 0, .int 0]))] H := hP
  have hD : va_D A [(h0, .inr (1, [.int 0, .int 0, .null, .int 0, .int 0, .int 0, .int 0, .int 0, .int 0, .int 0]))] := hD
  refine lv_aload_n hx hb dX3_init_9 rfl (lv_at hl 0 rfl) ?_
  refine lv_iconst (v := 0) hx hb dX3_init_10 (by decide) ?_
  refine va_put (D := (dC, dI)) (ci := 1) (v := .int 0) (ty := .boolean) (C := RX1) (T := TX1) (N := 10) hx hb hts (by decide +kernel) tyX1 tyX1_ok nmX1 hown hK hP hD hS 0 rfl rfl 1 (by decide) (hts (.fieldLink RX3 13 "UnibusMachine$Line" "wanting" "Z") (by decide +kernel)) (fun _ h9 => h9) rfl (by decide +kernel) (by decide) rfl (Nat.le_of_ble_eq_true rfl) dX3_init_11 (fun H locs hP hD hS => ?_)
  have hP : va_P (dC, dI) vwCl [(h0, .inr (1, [.int 0, .int 0, .null, .int 0, .int 0, .int 0, .int 0, .int 0, .int 0, .int 0]))] H := hP
  have hD : va_D A [(h0, .inr (1, [.int 0, .int 0, .null, .int 0, .int 0, .int 0, .int 0, .int 0, .int 0, .int 0]))] := hD
  have hP9 := hP.sub (ws' := [(h0, .inr (1, [.int 0, .int 0, .null, .int 0, .int 0, .int 0, .int 0, .int 0, .int 0, .int 0]))]) [0] rfl
  have hD9 := hD.sub (ws' := [(h0, .inr (1, [.int 0, .int 0, .null, .int 0, .int 0, .int 0, .int 0, .int 0, .int 0, .int 0]))]) [0] (by decide) rfl
  have hK9 := hK.sub (tys' := []) [] rfl
  exact W.vret hx hb hr (fun t ht hW => ⟨⟨(), rfl, trivial, by rw [ht]; exact hP9, va_K.moved hW.alike hK9, hD9⟩, hS.F ht⟩) hS.2.2 dX3_init_14
set_option maxHeartbeats 4000000 in
set_option maxRecDepth 100000 in
theorem c_k_Keyboard (l : Launch) (dC : Nat → ClassId) (dI : Nat → Nat → Nat) (h0 : Nat) (sz : Nat) : Met l yX2_init wsX2_init ({ frames := 2, cells := 0, slots := 0, locals := 32 } : Room) (va_Pc [.ref h0] (fun U => U.heap.size = sz ∧ va_P (dC, dI) vwCl [(h0, .inr (2, [.int 0, .int 0, .int 0]))] U.heap ∧ va_K (dC, dI) vwCl [] U ∧ va_D (fun _ => True) [(h0, .inr (2, [.int 0, .int 0, .int 0]))] ∧ va_Nw (.methodLinkNest RX2 1 yX3_init "UnibusMachine") U)) (va_Qv (fun (u : Unit) => True) (fun (u : Unit) (t : State) => va_P (dC, dI) vwCl [(h0, .inr (2, [.int 0, .int 0, .int 0]))] t.heap ∧ va_K (dC, dI) vwCl [] t ∧ va_D (va_A [(h0, .inr (2, [.int 0, .int 0, .int 0]))] sz) [(h0, .inr (2, [.int 0, .int 0, .int 0]))]) (va_A [(h0, .inr (2, [.int 0, .int 0, .int 0]))] sz)) 0 0 (va_A [(h0, .inr (2, [.int 0, .int 0, .int 0]))] sz) := by
  refine Met.ofW (cc := cX2_init) (maxL := 1) (ret := none) (by decide) rfl ?_
  intro p e s m args below meth c s₁ B hml hv
  obtain ⟨rfl, hsz, hP, hK, hD0, hnX2_1⟩ := hv
  have hx := B.exec
  have hb := B.bytes
  have hr := B.returns
  have hts := atoms_spec (ws := wsX2_init) B.pre
  have hown : s.vm.findClass RX2 = some m.cls := findClass_of_methodNamed B.named
  have hlocks := B.notSynchronized
  have hin : meth.name = "<init>" := (name_of_methodNamed B.named B.method).1
  have hD := hD0.self (sz := sz)
  generalize hAe : va_A [(h0, .inr (2, [.int 0, .int 0, .int 0]))] sz = A at hD ⊢
  have hA : ∀ q : Nat, s.heap.size ≤ q → A q := fun q h => by rw [← hAe]; exact Or.inr (by omega)
  have hS0 : ∀ G : Heap, s.heap = G → va_S A s.heap G [] := fun G h => by subst h; exact va_S.rf
  generalize hHe : s.heap = H at hP ⊢
  have hS := hS0 H hHe
  have hP : va_P (dC, dI) vwCl [(h0, .inr (2, [.int 0, .int 0, .int 0]))] H := hP
  have hD : va_D A [(h0, .inr (2, [.int 0, .int 0, .int 0]))] := hD
  have hK : va_K (dC, dI) vwCl [] s := hK
  have hl := lv_entry ([.ref h0]) (n := 1) (Nat.le_of_ble_eq_true rfl)
  rw [lg_entry_eq]
  generalize (lg_sl ([.ref h0]) ++ List.replicate (1 - (lg_sl ([.ref h0])).length) Slot.unset).toArray = ls at hl ⊢
  have hl : lv_has ls 1 [(0, .ref h0)] := hl
  refine lv_aload_n hx hb dX2_init_0 rfl (lv_at hl 0 rfl) ?_
  have hPc := hP.sub (ws' := [(h0, .inr (2, [.int 0, .int 0, .int 0]))]) [0] rfl
  have hDc := hD.sub (ws' := [(h0, .inr (2, [.int 0, .int 0, .int 0]))]) [0] (by decide) rfl
  have hKc := hK.sub (tys' := []) [] rfl
  have hFc := va_free (wc := [(h0, .inr (2, [.int 0, .int 0, .int 0]))]) hD hS hA [0] rfl
  refine va_callv (va_runIN (As := []) (rest := []) ⟨hx, hb, hml, hown, hts⟩ (c_k_Line_K l dC dI h0 H.size) ⟨va_cnB (host := "UnibusMachine") 0 hts gX2_init_X3_init_n1 rfl rfl rfl hnX2_1 (hts (.initialized RX3) (by decide +kernel)) (by decide +kernel) ⟨Nat.le_of_ble_eq_true rfl, Nat.le_of_ble_eq_true rfl⟩, rfl, (hts (.instanceMethod yX3_init) (by decide +kernel))⟩ ⟨fun a U g mk q => by obtain ⟨q0, q1, qP, qK, qD⟩ := q; exact ⟨q0, q1, qP, va_K.moved (u := U) (U := U.calling g mk a) (Vm.Alike.refl U.vm) qK, qD⟩, fun U hU hW => ⟨rfl, by rw [hU], by rw [hU]; exact hPc, va_K.moved hW.alike hKc, hDc.weaken (fun _ _ _ _ => trivial)⟩⟩ rfl rfl hl.1 rfl (lv_room (Nat.le_of_ble_eq_true rfl)) dX2_init_1 ⟨Nat.le_of_ble_eq_true rfl, Nat.le_of_ble_eq_true rfl⟩) hS (fun q _ h => hFc q h) hFc (fun u2 t H1 locs ht hvm hw hB hz1 hk1 hS => ?_)
  obtain ⟨hP1, hK1, hD1⟩ := hB
  rw [ht] at hP1
  have hK1 := va_K.moved hvm.symm hK1
  try dsimp only at hw
  obtain ⟨hP, hD⟩ := va_join (wr := []) (w1 := [(h0, .inr (2, [.int 0, .int 0, .int 0]))]) hP hD [0] [] rfl rfl (by decide) (by decide) hk1 hFc hP1 hD1
  have hK := (hK.sub (tys' := []) [] rfl).app hK1
  generalize H1 = H at hP hS ⊢
  have hP : va_P (dC, dI) vwCl [(h0, .inr (2, [.int 0, .int 0, .int 0]))] H := hP
  have hD : va_D A [(h0, .inr (2, [.int 0, .int 0, .int 0]))] := hD
  have hK : va_K (dC, dI) vwCl [] s := hK
  refine W.widen (k := 0) (n := 0) (Nat.le_of_ble_eq_true rfl) (Nat.le_of_ble_eq_true rfl) ?_
  refine lv_aload_n hx hb dX2_init_4 rfl (lv_at hl 0 rfl) ?_
  refine lv_iconst (v := 0) hx hb dX2_init_5 (by decide) ?_
  refine va_put (D := (dC, dI)) (ci := 2) (v := .int 0) (ty := .int) (C := RX2) (T := TX2) (N := 3) hx hb hts (by decide +kernel) tyX2 tyX2_ok nmX2 hown hK hP hD hS 0 rfl rfl 2 (by decide) (hts (.fieldLink RX2 7 "UnibusMachine$Keyboard" "character" "I") (by decide +kernel)) (fun _ h9 => h9) rfl (by decide +kernel) rfl rfl (Nat.le_of_ble_eq_true rfl) dX2_init_6 (fun H locs hP hD hS => ?_)
  have hP : va_P (dC, dI) vwCl [(h0, .inr (2, [.int 0, .int 0, .int 0]))] H := hP
  have hD : va_D A [(h0, .inr (2, [.int 0, .int 0, .int 0]))] := hD
  have hP9 := hP.sub (ws' := [(h0, .inr (2, [.int 0, .int 0, .int 0]))]) [0] rfl
  have hD9 := hD.sub (ws' := [(h0, .inr (2, [.int 0, .int 0, .int 0]))]) [0] (by decide) rfl
  have hK9 := hK.sub (tys' := []) [] rfl
  exact W.vret hx hb hr (fun t ht hW => ⟨⟨(), rfl, trivial, by rw [ht]; exact hP9, va_K.moved hW.alike hK9, hD9⟩, hS.F ht⟩) hS.2.2 dX2_init_9
set_option maxHeartbeats 4000000 in
set_option maxRecDepth 100000 in
theorem c_k_Printer (l : Launch) (dC : Nat → ClassId) (dI : Nat → Nat → Nat) (h0 : Nat) (sz : Nat) : Met l yX5_init wsX5_init ({ frames := 2, cells := 1, slots := 32, locals := 32 } : Room) (va_Pc [.ref h0] (fun U => U.heap.size = sz ∧ va_P (dC, dI) vwCl [(h0, .inr (4, [.int 0, .int 0, .null, .int 0, .int 0, .int 0, .int 0]))] U.heap ∧ va_K (dC, dI) vwCl [] U ∧ va_D (fun _ => True) [(h0, .inr (4, [.int 0, .int 0, .null, .int 0, .int 0, .int 0, .int 0]))] ∧ va_Nw (.methodLinkNest RX5 1 yX3_init "UnibusMachine") U)) (va_Qv (fun (u : Unit) => True) (fun (u : Unit) (t : State) => ∃ (ap : Nat) (tp : ClassId), va_P (dC, dI) vwCl [(h0, .inr (4, [.int 128, .int 0, .ref ap, .int 0, .int 0, .int 0, .int 0])), (ap, .inl (tp, 32, .inl (fun _ => 0)))] t.heap ∧ va_K (dC, dI) vwCl [(tp, .int)] t ∧ va_D (va_A [(h0, .inr (4, [.int 0, .int 0, .null, .int 0, .int 0, .int 0, .int 0]))] sz) [(h0, .inr (4, [.int 128, .int 0, .ref ap, .int 0, .int 0, .int 0, .int 0])), (ap, .inl (tp, 32, .inl (fun _ => 0)))]) (va_A [(h0, .inr (4, [.int 0, .int 0, .null, .int 0, .int 0, .int 0, .int 0]))] sz)) 1 32 (va_A [(h0, .inr (4, [.int 0, .int 0, .null, .int 0, .int 0, .int 0, .int 0]))] sz) := by
  refine Met.ofW (cc := cX5_init) (maxL := 1) (ret := none) (by decide) rfl ?_
  intro p e s m args below meth c s₁ B hml hv
  obtain ⟨rfl, hsz, hP, hK, hD0, hnX5_1⟩ := hv
  have hx := B.exec
  have hb := B.bytes
  have hr := B.returns
  have hts := atoms_spec (ws := wsX5_init) B.pre
  have hown : s.vm.findClass RX5 = some m.cls := findClass_of_methodNamed B.named
  have hlocks := B.notSynchronized
  have hin : meth.name = "<init>" := (name_of_methodNamed B.named B.method).1
  have hD := hD0.self (sz := sz)
  generalize hAe : va_A [(h0, .inr (4, [.int 0, .int 0, .null, .int 0, .int 0, .int 0, .int 0]))] sz = A at hD ⊢
  have hA : ∀ q : Nat, s.heap.size ≤ q → A q := fun q h => by rw [← hAe]; exact Or.inr (by omega)
  have hS0 : ∀ G : Heap, s.heap = G → va_S A s.heap G [] := fun G h => by subst h; exact va_S.rf
  generalize hHe : s.heap = H at hP ⊢
  have hS := hS0 H hHe
  have hP : va_P (dC, dI) vwCl [(h0, .inr (4, [.int 0, .int 0, .null, .int 0, .int 0, .int 0, .int 0]))] H := hP
  have hD : va_D A [(h0, .inr (4, [.int 0, .int 0, .null, .int 0, .int 0, .int 0, .int 0]))] := hD
  have hK : va_K (dC, dI) vwCl [] s := hK
  have hl := lv_entry ([.ref h0]) (n := 1) (Nat.le_of_ble_eq_true rfl)
  rw [lg_entry_eq]
  generalize (lg_sl ([.ref h0]) ++ List.replicate (1 - (lg_sl ([.ref h0])).length) Slot.unset).toArray = ls at hl ⊢
  have hl : lv_has ls 1 [(0, .ref h0)] := hl
  refine lv_aload_n hx hb dX5_init_0 rfl (lv_at hl 0 rfl) ?_
  have hPc := hP.sub (ws' := [(h0, .inr (4, [.int 0, .int 0, .null, .int 0, .int 0, .int 0, .int 0]))]) [0] rfl
  have hDc := hD.sub (ws' := [(h0, .inr (4, [.int 0, .int 0, .null, .int 0, .int 0, .int 0, .int 0]))]) [0] (by decide) rfl
  have hKc := hK.sub (tys' := []) [] rfl
  have hFc := va_free (wc := [(h0, .inr (4, [.int 0, .int 0, .null, .int 0, .int 0, .int 0, .int 0]))]) hD hS hA [0] rfl
  refine va_callv (va_runIN (As := []) (rest := []) ⟨hx, hb, hml, hown, hts⟩ (c_k_Line_P l dC dI h0 H.size) ⟨va_cnB (host := "UnibusMachine") 0 hts gX5_init_X3_init_n1 rfl rfl rfl hnX5_1 (hts (.initialized RX3) (by decide +kernel)) (by decide +kernel) ⟨Nat.le_of_ble_eq_true rfl, Nat.le_of_ble_eq_true rfl⟩, rfl, (hts (.instanceMethod yX3_init) (by decide +kernel))⟩ ⟨fun a U g mk q => by obtain ⟨q0, q1, qP, qK, qD⟩ := q; exact ⟨q0, q1, qP, va_K.moved (u := U) (U := U.calling g mk a) (Vm.Alike.refl U.vm) qK, qD⟩, fun U hU hW => ⟨rfl, by rw [hU], by rw [hU]; exact hPc, va_K.moved hW.alike hKc, hDc.weaken (fun _ _ _ _ => trivial)⟩⟩ rfl rfl hl.1 rfl (lv_room (Nat.le_of_ble_eq_true rfl)) dX5_init_1 ⟨Nat.le_of_ble_eq_true rfl, Nat.le_of_ble_eq_true rfl⟩) hS (fun q _ h => hFc q h) hFc (fun u2 t H1 locs ht hvm hw hB hz1 hk1 hS => ?_)
  obtain ⟨hP1, hK1, hD1⟩ := hB
  rw [ht] at hP1
  have hK1 := va_K.moved hvm.symm hK1
  try dsimp only at hw
  obtain ⟨hP, hD⟩ := va_join (wr := []) (w1 := [(h0, .inr (4, [.int 0, .int 0, .null, .int 0, .int 0, .int 0, .int 0]))]) hP hD [0] [] rfl rfl (by decide) (by decide) hk1 hFc hP1 hD1
  have hK := (hK.sub (tys' := []) [] rfl).app hK1
  generalize H1 = H at hP hS ⊢
  have hP : va_P (dC, dI) vwCl [(h0, .inr (4, [.int 0, .int 0, .null, .int 0, .int 0, .int 0, .int 0]))] H := hP
  have hD : va_D A [(h0, .inr (4, [.int 0, .int 0, .null, .int 0, .int 0, .int 0, .int 0]))] := hD
  have hK : va_K (dC, dI) vwCl [] s := hK
  refine W.widen (k := 0) (n := 0) (Nat.le_of_ble_eq_true rfl) (Nat.le_of_ble_eq_true rfl) ?_
  refine lv_aload_n hx hb dX5_init_4 rfl (lv_at hl 0 rfl) ?_
  refine lv_bipush (v := 32) hx hb dX5_init_5 (by decide) ?_
  refine va_newa (atype := .int) (ty := .int) (a0 := (32, .inl (fun _ => 0))) hx hb (hts (.arrayClass .int) (by decide +kernel)) rfl hK hP hD hS hA (fun _ => rfl) (by decide) (by decide) (Nat.le_of_ble_eq_true rfl) (Nat.le_of_ble_eq_true rfl) (Nat.le_of_ble_eq_true rfl) dX5_init_7 (fun q3 cA4 H hK hP hD hS => ?_)
  have hP : va_P (dC, dI) vwCl [(h0, .inr (4, [.int 0, .int 0, .null, .int 0, .int 0, .int 0, .int 0])), (q3, .inl (cA4, 32, .inl (fun _ => 0)))] H := hP
  have hD : va_D A [(h0, .inr (4, [.int 0, .int 0, .null, .int 0, .int 0, .int 0, .int 0])), (q3, .inl (cA4, 32, .inl (fun _ => 0)))] := hD
  have hK : va_K (dC, dI) vwCl [(cA4, .int)] s := hK
  refine W.widen (k := 1) (n := 32) (Nat.le_of_ble_eq_true rfl) (Nat.le_of_ble_eq_true rfl) ?_
  refine va_putF (D := (dC, dI)) (ci := 4) (v := .ref q3) (ty := .array .int) (C := RX5) (T := TX5) (N := 7) hx hb hts (by decide +kernel) tyX5 tyX5_ok nmX5 hown hK hP hD hS 0 rfl rfl 2 (by decide) (hts (.fieldLink RX5 9 "UnibusMachine$Printer" "paper" "[I") (by decide +kernel)) (fun _ h9 => h9) rfl hin rfl (by decide +kernel) rfl rfl (Nat.le_of_ble_eq_true rfl) dX5_init_9 (fun H locs hP hD hS => ?_)
  have hP : va_P (dC, dI) vwCl [(h0, .inr (4, [.int 0, .int 0, .ref q3, .int 0, .int 0, .int 0, .int 0])), (q3, .inl (cA4, 32, .inl (fun _ => 0)))] H := hP
  have hD : va_D A [(h0, .inr (4, [.int 0, .int 0, .ref q3, .int 0, .int 0, .int 0, .int 0])), (q3, .inl (cA4, 32, .inl (fun _ => 0)))] := hD
  refine lv_aload_n hx hb dX5_init_12 rfl (lv_at hl 0 rfl) ?_
  refine lv_iconst (v := 0) hx hb dX5_init_13 (by decide) ?_
  refine va_put (D := (dC, dI)) (ci := 4) (v := .int 0) (ty := .int) (C := RX5) (T := TX5) (N := 7) hx hb hts (by decide +kernel) tyX5 tyX5_ok nmX5 hown hK hP hD hS 0 rfl rfl 3 (by decide) (hts (.fieldLink RX5 13 "UnibusMachine$Printer" "count" "I") (by decide +kernel)) (fun _ h9 => h9) rfl (by decide +kernel) rfl rfl (Nat.le_of_ble_eq_true rfl) dX5_init_14 (fun H locs hP hD hS => ?_)
  have hP : va_P (dC, dI) vwCl [(h0, .inr (4, [.int 0, .int 0, .ref q3, .int 0, .int 0, .int 0, .int 0])), (q3, .inl (cA4, 32, .inl (fun _ => 0)))] H := hP
  have hD : va_D A [(h0, .inr (4, [.int 0, .int 0, .ref q3, .int 0, .int 0, .int 0, .int 0])), (q3, .inl (cA4, 32, .inl (fun _ => 0)))] := hD
  refine lv_aload_n hx hb dX5_init_17 rfl (lv_at hl 0 rfl) ?_
  refine lv_iconst (v := 0) hx hb dX5_init_18 (by decide) ?_
  refine va_put (D := (dC, dI)) (ci := 4) (v := .int 0) (ty := .int) (C := RX5) (T := TX5) (N := 7) hx hb hts (by decide +kernel) tyX5 tyX5_ok nmX5 hown hK hP hD hS 0 rfl rfl 4 (by decide) (hts (.fieldLink RX5 17 "UnibusMachine$Printer" "character" "I") (by decide +kernel)) (fun _ h9 => h9) rfl (by decide +kernel) rfl rfl (Nat.le_of_ble_eq_true rfl) dX5_init_19 (fun H locs hP hD hS => ?_)
  have hP : va_P (dC, dI) vwCl [(h0, .inr (4, [.int 0, .int 0, .ref q3, .int 0, .int 0, .int 0, .int 0])), (q3, .inl (cA4, 32, .inl (fun _ => 0)))] H := hP
  have hD : va_D A [(h0, .inr (4, [.int 0, .int 0, .ref q3, .int 0, .int 0, .int 0, .int 0])), (q3, .inl (cA4, 32, .inl (fun _ => 0)))] := hD
  refine lv_aload_n hx hb dX5_init_22 rfl (lv_at hl 0 rfl) ?_
  refine lv_iconst (v := 0) hx hb dX5_init_23 (by decide) ?_
  refine va_put (D := (dC, dI)) (ci := 4) (v := .int 0) (ty := .int) (C := RX5) (T := TX5) (N := 7) hx hb hts (by decide +kernel) tyX5 tyX5_ok nmX5 hown hK hP hD hS 0 rfl rfl 5 (by decide) (hts (.fieldLink RX5 20 "UnibusMachine$Printer" "left" "I") (by decide +kernel)) (fun _ h9 => h9) rfl (by decide +kernel) rfl rfl (Nat.le_of_ble_eq_true rfl) dX5_init_24 (fun H locs hP hD hS => ?_)
  have hP : va_P (dC, dI) vwCl [(h0, .inr (4, [.int 0, .int 0, .ref q3, .int 0, .int 0, .int 0, .int 0])), (q3, .inl (cA4, 32, .inl (fun _ => 0)))] H := hP
  have hD : va_D A [(h0, .inr (4, [.int 0, .int 0, .ref q3, .int 0, .int 0, .int 0, .int 0])), (q3, .inl (cA4, 32, .inl (fun _ => 0)))] := hD
  refine lv_aload_n hx hb dX5_init_27 rfl (lv_at hl 0 rfl) ?_
  refine lv_iconst (v := 0) hx hb dX5_init_28 (by decide) ?_
  refine va_put (D := (dC, dI)) (ci := 4) (v := .int 0) (ty := .boolean) (C := RX5) (T := TX5) (N := 7) hx hb hts (by decide +kernel) tyX5 tyX5_ok nmX5 hown hK hP hD hS 0 rfl rfl 6 (by decide) (hts (.fieldLink RX5 23 "UnibusMachine$Printer" "fresh" "Z") (by decide +kernel)) (fun _ h9 => h9) rfl (by decide +kernel) (by decide) rfl (Nat.le_of_ble_eq_true rfl) dX5_init_29 (fun H locs hP hD hS => ?_)
  have hP : va_P (dC, dI) vwCl [(h0, .inr (4, [.int 0, .int 0, .ref q3, .int 0, .int 0, .int 0, .int 0])), (q3, .inl (cA4, 32, .inl (fun _ => 0)))] H := hP
  have hD : va_D A [(h0, .inr (4, [.int 0, .int 0, .ref q3, .int 0, .int 0, .int 0, .int 0])), (q3, .inl (cA4, 32, .inl (fun _ => 0)))] := hD
  refine lv_aload_n hx hb dX5_init_32 rfl (lv_at hl 0 rfl) ?_
  refine lv_sipush (v := 128) hx hb dX5_init_33 (by decide) ?_
  refine va_put (D := (dC, dI)) (ci := 4) (v := .int 128) (ty := .int) (C := RX5) (T := TX5) (N := 7) hx hb hts (by decide +kernel) tyX5 tyX5_ok nmX5 hown hK hP hD hS 0 rfl rfl 0 (by decide) (hts (.fieldLink RX5 27 "UnibusMachine$Printer" "bits" "I") (by decide +kernel)) (u_same (hts (.sameField "UnibusMachine$Printer" "UnibusMachine$Line" "bits" "I") (by decide +kernel))) rfl (by decide +kernel) rfl rfl (Nat.le_of_ble_eq_true rfl) dX5_init_36 (fun H locs hP hD hS => ?_)
  have hP : va_P (dC, dI) vwCl [(h0, .inr (4, [.int 128, .int 0, .ref q3, .int 0, .int 0, .int 0, .int 0])), (q3, .inl (cA4, 32, .inl (fun _ => 0)))] H := hP
  have hD : va_D A [(h0, .inr (4, [.int 128, .int 0, .ref q3, .int 0, .int 0, .int 0, .int 0])), (q3, .inl (cA4, 32, .inl (fun _ => 0)))] := hD
  have hP9 := hP.sub (ws' := [(h0, .inr (4, [.int 128, .int 0, .ref q3, .int 0, .int 0, .int 0, .int 0])), (q3, .inl (cA4, 32, .inl (fun _ => 0)))]) [0, 1] rfl
  have hD9 := hD.sub (ws' := [(h0, .inr (4, [.int 128, .int 0, .ref q3, .int 0, .int 0, .int 0, .int 0])), (q3, .inl (cA4, 32, .inl (fun _ => 0)))]) [0, 1] (by decide) rfl
  have hK9 := hK.sub (tys' := [(cA4, .int)]) [0] rfl
  exact W.vret hx hb hr (fun t ht hW => ⟨⟨(), rfl, trivial, q3, cA4, by rw [ht]; exact hP9, va_K.moved hW.alike hK9, hD9⟩, hS.F ht⟩) hS.2.2 dX5_init_39
set_option maxHeartbeats 4000000 in
set_option maxRecDepth 100000 in
theorem c_k_Drive (l : Launch) (dC : Nat → ClassId) (dI : Nat → Nat → Nat) (h0 : Nat) (sz : Nat) : Met l yX1_init wsX1_init ({ frames := 2, cells := 1, slots := 128, locals := 32 } : Room) (va_Pc [.ref h0] (fun U => U.heap.size = sz ∧ va_P (dC, dI) vwCl [(h0, .inr (1, [.int 0, .int 0, .null, .int 0, .int 0, .int 0, .int 0, .int 0, .int 0, .int 0]))] U.heap ∧ va_K (dC, dI) vwCl [] U ∧ va_D (fun _ => True) [(h0, .inr (1, [.int 0, .int 0, .null, .int 0, .int 0, .int 0, .int 0, .int 0, .int 0, .int 0]))] ∧ va_Nw (.methodLinkNest RX1 1 yX3_init "UnibusMachine") U)) (va_Qv (fun (u : Unit) => True) (fun (u : Unit) (t : State) => ∃ (aw : Nat) (tw : ClassId), va_P (dC, dI) vwCl [(h0, .inr (1, [.int 128, .int 0, .ref aw, .int 0, .int 0, .int 0, .int 0, .int 0, .int 0, .int 0])), (aw, .inl (tw, 128, .inl (fun _ => 0)))] t.heap ∧ va_K (dC, dI) vwCl [(tw, .int)] t ∧ va_D (va_A [(h0, .inr (1, [.int 0, .int 0, .null, .int 0, .int 0, .int 0, .int 0, .int 0, .int 0, .int 0]))] sz) [(h0, .inr (1, [.int 128, .int 0, .ref aw, .int 0, .int 0, .int 0, .int 0, .int 0, .int 0, .int 0])), (aw, .inl (tw, 128, .inl (fun _ => 0)))]) (va_A [(h0, .inr (1, [.int 0, .int 0, .null, .int 0, .int 0, .int 0, .int 0, .int 0, .int 0, .int 0]))] sz)) 1 128 (va_A [(h0, .inr (1, [.int 0, .int 0, .null, .int 0, .int 0, .int 0, .int 0, .int 0, .int 0, .int 0]))] sz) := by
  refine Met.ofW (cc := cX1_init) (maxL := 1) (ret := none) (by decide) rfl ?_
  intro p e s m args below meth c s₁ B hml hv
  obtain ⟨rfl, hsz, hP, hK, hD0, hnX1_1⟩ := hv
  have hx := B.exec
  have hb := B.bytes
  have hr := B.returns
  have hts := atoms_spec (ws := wsX1_init) B.pre
  have hown : s.vm.findClass RX1 = some m.cls := findClass_of_methodNamed B.named
  have hlocks := B.notSynchronized
  have hin : meth.name = "<init>" := (name_of_methodNamed B.named B.method).1
  have hD := hD0.self (sz := sz)
  generalize hAe : va_A [(h0, .inr (1, [.int 0, .int 0, .null, .int 0, .int 0, .int 0, .int 0, .int 0, .int 0, .int 0]))] sz = A at hD ⊢
  have hA : ∀ q : Nat, s.heap.size ≤ q → A q := fun q h => by rw [← hAe]; exact Or.inr (by omega)
  have hS0 : ∀ G : Heap, s.heap = G → va_S A s.heap G [] := fun G h => by subst h; exact va_S.rf
  generalize hHe : s.heap = H at hP ⊢
  have hS := hS0 H hHe
  have hP : va_P (dC, dI) vwCl [(h0, .inr (1, [.int 0, .int 0, .null, .int 0, .int 0, .int 0, .int 0, .int 0, .int 0, .int 0]))] H := hP
  have hD : va_D A [(h0, .inr (1, [.int 0, .int 0, .null, .int 0, .int 0, .int 0, .int 0, .int 0, .int 0, .int 0]))] := hD
  have hK : va_K (dC, dI) vwCl [] s := hK
  have hl := lv_entry ([.ref h0]) (n := 1) (Nat.le_of_ble_eq_true rfl)
  rw [lg_entry_eq]
  generalize (lg_sl ([.ref h0]) ++ List.replicate (1 - (lg_sl ([.ref h0])).length) Slot.unset).toArray = ls at hl ⊢
  have hl : lv_has ls 1 [(0, .ref h0)] := hl
  refine lv_aload_n hx hb dX1_init_0 rfl (lv_at hl 0 rfl) ?_
  have hPc := hP.sub (ws' := [(h0, .inr (1, [.int 0, .int 0, .null, .int 0, .int 0, .int 0, .int 0, .int 0, .int 0, .int 0]))]) [0] rfl
  have hDc := hD.sub (ws' := [(h0, .inr (1, [.int 0, .int 0, .null, .int 0, .int 0, .int 0, .int 0, .int 0, .int 0, .int 0]))]) [0] (by decide) rfl
  have hKc := hK.sub (tys' := []) [] rfl
  have hFc := va_free (wc := [(h0, .inr (1, [.int 0, .int 0, .null, .int 0, .int 0, .int 0, .int 0, .int 0, .int 0, .int 0]))]) hD hS hA [0] rfl
  refine va_callv (va_runIN (As := []) (rest := []) ⟨hx, hb, hml, hown, hts⟩ (c_k_Line_D l dC dI h0 H.size) ⟨va_cnB (host := "UnibusMachine") 0 hts gX1_init_X3_init_n1 rfl rfl rfl hnX1_1 (hts (.initialized RX3) (by decide +kernel)) (by decide +kernel) ⟨Nat.le_of_ble_eq_true rfl, Nat.le_of_ble_eq_true rfl⟩, rfl, (hts (.instanceMethod yX3_init) (by decide +kernel))⟩ ⟨fun a U g mk q => by obtain ⟨q0, q1, qP, qK, qD⟩ := q; exact ⟨q0, q1, qP, va_K.moved (u := U) (U := U.calling g mk a) (Vm.Alike.refl U.vm) qK, qD⟩, fun U hU hW => ⟨rfl, by rw [hU], by rw [hU]; exact hPc, va_K.moved hW.alike hKc, hDc.weaken (fun _ _ _ _ => trivial)⟩⟩ rfl rfl hl.1 rfl (lv_room (Nat.le_of_ble_eq_true rfl)) dX1_init_1 ⟨Nat.le_of_ble_eq_true rfl, Nat.le_of_ble_eq_true rfl⟩) hS (fun q _ h => hFc q h) hFc (fun u2 t H1 locs ht hvm hw hB hz1 hk1 hS => ?_)
  obtain ⟨hP1, hK1, hD1⟩ := hB
  rw [ht] at hP1
  have hK1 := va_K.moved hvm.symm hK1
  try dsimp only at hw
  obtain ⟨hP, hD⟩ := va_join (wr := []) (w1 := [(h0, .inr (1, [.int 0, .int 0, .null, .int 0, .int 0, .int 0, .int 0, .int 0, .int 0, .int 0]))]) hP hD [0] [] rfl rfl (by decide) (by decide) hk1 hFc hP1 hD1
  have hK := (hK.sub (tys' := []) [] rfl).app hK1
  generalize H1 = H at hP hS ⊢
  have hP : va_P (dC, dI) vwCl [(h0, .inr (1, [.int 0, .int 0, .null, .int 0, .int 0, .int 0, .int 0, .int 0, .int 0, .int 0]))] H := hP
  have hD : va_D A [(h0, .inr (1, [.int 0, .int 0, .null, .int 0, .int 0, .int 0, .int 0, .int 0, .int 0, .int 0]))] := hD
  have hK : va_K (dC, dI) vwCl [] s := hK
  refine W.widen (k := 0) (n := 0) (Nat.le_of_ble_eq_true rfl) (Nat.le_of_ble_eq_true rfl) ?_
  refine lv_aload_n hx hb dX1_init_4 rfl (lv_at hl 0 rfl) ?_
  refine lv_sipush (v := 128) hx hb dX1_init_5 (by decide) ?_
  refine va_newa (atype := .int) (ty := .int) (a0 := (128, .inl (fun _ => 0))) hx hb (hts (.arrayClass .int) (by decide +kernel)) rfl hK hP hD hS hA (fun _ => rfl) (by decide) (by decide) (Nat.le_of_ble_eq_true rfl) (Nat.le_of_ble_eq_true rfl) (Nat.le_of_ble_eq_true rfl) dX1_init_8 (fun q3 cA4 H hK hP hD hS => ?_)
  have hP : va_P (dC, dI) vwCl [(h0, .inr (1, [.int 0, .int 0, .null, .int 0, .int 0, .int 0, .int 0, .int 0, .int 0, .int 0])), (q3, .inl (cA4, 128, .inl (fun _ => 0)))] H := hP
  have hD : va_D A [(h0, .inr (1, [.int 0, .int 0, .null, .int 0, .int 0, .int 0, .int 0, .int 0, .int 0, .int 0])), (q3, .inl (cA4, 128, .inl (fun _ => 0)))] := hD
  have hK : va_K (dC, dI) vwCl [(cA4, .int)] s := hK
  refine W.widen (k := 1) (n := 128) (Nat.le_of_ble_eq_true rfl) (Nat.le_of_ble_eq_true rfl) ?_
  refine va_putF (D := (dC, dI)) (ci := 1) (v := .ref q3) (ty := .array .int) (C := RX1) (T := TX1) (N := 10) hx hb hts (by decide +kernel) tyX1 tyX1_ok nmX1 hown hK hP hD hS 0 rfl rfl 2 (by decide) (hts (.fieldLink RX1 9 "UnibusMachine$Drive" "words" "[I") (by decide +kernel)) (fun _ h9 => h9) rfl hin rfl (by decide +kernel) rfl rfl (Nat.le_of_ble_eq_true rfl) dX1_init_10 (fun H locs hP hD hS => ?_)
  have hP : va_P (dC, dI) vwCl [(h0, .inr (1, [.int 0, .int 0, .ref q3, .int 0, .int 0, .int 0, .int 0, .int 0, .int 0, .int 0])), (q3, .inl (cA4, 128, .inl (fun _ => 0)))] H := hP
  have hD : va_D A [(h0, .inr (1, [.int 0, .int 0, .ref q3, .int 0, .int 0, .int 0, .int 0, .int 0, .int 0, .int 0])), (q3, .inl (cA4, 128, .inl (fun _ => 0)))] := hD
  refine lv_aload_n hx hb dX1_init_13 rfl (lv_at hl 0 rfl) ?_
  refine lv_iconst (v := 0) hx hb dX1_init_14 (by decide) ?_
  refine va_put (D := (dC, dI)) (ci := 1) (v := .int 0) (ty := .int) (C := RX1) (T := TX1) (N := 10) hx hb hts (by decide +kernel) tyX1 tyX1_ok nmX1 hown hK hP hD hS 0 rfl rfl 3 (by decide) (hts (.fieldLink RX1 13 "UnibusMachine$Drive" "writing" "I") (by decide +kernel)) (fun _ h9 => h9) rfl (by decide +kernel) rfl rfl (Nat.le_of_ble_eq_true rfl) dX1_init_15 (fun H locs hP hD hS => ?_)
  have hP : va_P (dC, dI) vwCl [(h0, .inr (1, [.int 0, .int 0, .ref q3, .int 0, .int 0, .int 0, .int 0, .int 0, .int 0, .int 0])), (q3, .inl (cA4, 128, .inl (fun _ => 0)))] H := hP
  have hD : va_D A [(h0, .inr (1, [.int 0, .int 0, .ref q3, .int 0, .int 0, .int 0, .int 0, .int 0, .int 0, .int 0])), (q3, .inl (cA4, 128, .inl (fun _ => 0)))] := hD
  refine lv_aload_n hx hb dX1_init_18 rfl (lv_at hl 0 rfl) ?_
  refine lv_iconst (v := 0) hx hb dX1_init_19 (by decide) ?_
  refine va_put (D := (dC, dI)) (ci := 1) (v := .int 0) (ty := .int) (C := RX1) (T := TX1) (N := 10) hx hb hts (by decide +kernel) tyX1 tyX1_ok nmX1 hown hK hP hD hS 0 rfl rfl 4 (by decide) (hts (.fieldLink RX1 17 "UnibusMachine$Drive" "wrong" "I") (by decide +kernel)) (fun _ h9 => h9) rfl (by decide +kernel) rfl rfl (Nat.le_of_ble_eq_true rfl) dX1_init_20 (fun H locs hP hD hS => ?_)
  have hP : va_P (dC, dI) vwCl [(h0, .inr (1, [.int 0, .int 0, .ref q3, .int 0, .int 0, .int 0, .int 0, .int 0, .int 0, .int 0])), (q3, .inl (cA4, 128, .inl (fun _ => 0)))] H := hP
  have hD : va_D A [(h0, .inr (1, [.int 0, .int 0, .ref q3, .int 0, .int 0, .int 0, .int 0, .int 0, .int 0, .int 0])), (q3, .inl (cA4, 128, .inl (fun _ => 0)))] := hD
  refine lv_aload_n hx hb dX1_init_23 rfl (lv_at hl 0 rfl) ?_
  refine lv_iconst (v := 0) hx hb dX1_init_24 (by decide) ?_
  refine va_put (D := (dC, dI)) (ci := 1) (v := .int 0) (ty := .int) (C := RX1) (T := TX1) (N := 10) hx hb hts (by decide +kernel) tyX1 tyX1_ok nmX1 hown hK hP hD hS 0 rfl rfl 5 (by decide) (hts (.fieldLink RX1 20 "UnibusMachine$Drive" "count" "I") (by decide +kernel)) (fun _ h9 => h9) rfl (by decide +kernel) rfl rfl (Nat.le_of_ble_eq_true rfl) dX1_init_25 (fun H locs hP hD hS => ?_)
  have hP : va_P (dC, dI) vwCl [(h0, .inr (1, [.int 0, .int 0, .ref q3, .int 0, .int 0, .int 0, .int 0, .int 0, .int 0, .int 0])), (q3, .inl (cA4, 128, .inl (fun _ => 0)))] H := hP
  have hD : va_D A [(h0, .inr (1, [.int 0, .int 0, .ref q3, .int 0, .int 0, .int 0, .int 0, .int 0, .int 0, .int 0])), (q3, .inl (cA4, 128, .inl (fun _ => 0)))] := hD
  refine lv_aload_n hx hb dX1_init_28 rfl (lv_at hl 0 rfl) ?_
  refine lv_iconst (v := 0) hx hb dX1_init_29 (by decide) ?_
  refine va_put (D := (dC, dI)) (ci := 1) (v := .int 0) (ty := .int) (C := RX1) (T := TX1) (N := 10) hx hb hts (by decide +kernel) tyX1 tyX1_ok nmX1 hown hK hP hD hS 0 rfl rfl 6 (by decide) (hts (.fieldLink RX1 23 "UnibusMachine$Drive" "address" "I") (by decide +kernel)) (fun _ h9 => h9) rfl (by decide +kernel) rfl rfl (Nat.le_of_ble_eq_true rfl) dX1_init_30 (fun H locs hP hD hS => ?_)
  have hP : va_P (dC, dI) vwCl [(h0, .inr (1, [.int 0, .int 0, .ref q3, .int 0, .int 0, .int 0, .int 0, .int 0, .int 0, .int 0])), (q3, .inl (cA4, 128, .inl (fun _ => 0)))] H := hP
  have hD : va_D A [(h0, .inr (1, [.int 0, .int 0, .ref q3, .int 0, .int 0, .int 0, .int 0, .int 0, .int 0, .int 0])), (q3, .inl (cA4, 128, .inl (fun _ => 0)))] := hD
  refine lv_aload_n hx hb dX1_init_33 rfl (lv_at hl 0 rfl) ?_
  refine lv_iconst (v := 0) hx hb dX1_init_34 (by decide) ?_
  refine va_put (D := (dC, dI)) (ci := 1) (v := .int 0) (ty := .int) (C := RX1) (T := TX1) (N := 10) hx hb hts (by decide +kernel) tyX1 tyX1_ok nmX1 hown hK hP hD hS 0 rfl rfl 7 (by decide) (hts (.fieldLink RX1 26 "UnibusMachine$Drive" "sector" "I") (by decide +kernel)) (fun _ h9 => h9) rfl (by decide +kernel) rfl rfl (Nat.le_of_ble_eq_true rfl) dX1_init_35 (fun H locs hP hD hS => ?_)
  have hP : va_P (dC, dI) vwCl [(h0, .inr (1, [.int 0, .int 0, .ref q3, .int 0, .int 0, .int 0, .int 0, .int 0, .int 0, .int 0])), (q3, .inl (cA4, 128, .inl (fun _ => 0)))] H := hP
  have hD : va_D A [(h0, .inr (1, [.int 0, .int 0, .ref q3, .int 0, .int 0, .int 0, .int 0, .int 0, .int 0, .int 0])), (q3, .inl (cA4, 128, .inl (fun _ => 0)))] := hD
  refine lv_aload_n hx hb dX1_init_38 rfl (lv_at hl 0 rfl) ?_
  refine lv_iconst (v := 0) hx hb dX1_init_39 (by decide) ?_
  refine va_put (D := (dC, dI)) (ci := 1) (v := .int 0) (ty := .int) (C := RX1) (T := TX1) (N := 10) hx hb hts (by decide +kernel) tyX1 tyX1_ok nmX1 hown hK hP hD hS 0 rfl rfl 8 (by decide) (hts (.fieldLink RX1 29 "UnibusMachine$Drive" "left" "I") (by decide +kernel)) (fun _ h9 => h9) rfl (by decide +kernel) rfl rfl (Nat.le_of_ble_eq_true rfl) dX1_init_40 (fun H locs hP hD hS => ?_)
  have hP : va_P (dC, dI) vwCl [(h0, .inr (1, [.int 0, .int 0, .ref q3, .int 0, .int 0, .int 0, .int 0, .int 0, .int 0, .int 0])), (q3, .inl (cA4, 128, .inl (fun _ => 0)))] H := hP
  have hD : va_D A [(h0, .inr (1, [.int 0, .int 0, .ref q3, .int 0, .int 0, .int 0, .int 0, .int 0, .int 0, .int 0])), (q3, .inl (cA4, 128, .inl (fun _ => 0)))] := hD
  refine lv_aload_n hx hb dX1_init_43 rfl (lv_at hl 0 rfl) ?_
  refine lv_iconst (v := 0) hx hb dX1_init_44 (by decide) ?_
  refine va_put (D := (dC, dI)) (ci := 1) (v := .int 0) (ty := .boolean) (C := RX1) (T := TX1) (N := 10) hx hb hts (by decide +kernel) tyX1 tyX1_ok nmX1 hown hK hP hD hS 0 rfl rfl 9 (by decide) (hts (.fieldLink RX1 32 "UnibusMachine$Drive" "fresh" "Z") (by decide +kernel)) (fun _ h9 => h9) rfl (by decide +kernel) (by decide) rfl (Nat.le_of_ble_eq_true rfl) dX1_init_45 (fun H locs hP hD hS => ?_)
  have hP : va_P (dC, dI) vwCl [(h0, .inr (1, [.int 0, .int 0, .ref q3, .int 0, .int 0, .int 0, .int 0, .int 0, .int 0, .int 0])), (q3, .inl (cA4, 128, .inl (fun _ => 0)))] H := hP
  have hD : va_D A [(h0, .inr (1, [.int 0, .int 0, .ref q3, .int 0, .int 0, .int 0, .int 0, .int 0, .int 0, .int 0])), (q3, .inl (cA4, 128, .inl (fun _ => 0)))] := hD
  refine lv_aload_n hx hb dX1_init_48 rfl (lv_at hl 0 rfl) ?_
  refine lv_sipush (v := 128) hx hb dX1_init_49 (by decide) ?_
  refine va_put (D := (dC, dI)) (ci := 1) (v := .int 128) (ty := .int) (C := RX1) (T := TX1) (N := 10) hx hb hts (by decide +kernel) tyX1 tyX1_ok nmX1 hown hK hP hD hS 0 rfl rfl 0 (by decide) (hts (.fieldLink RX1 36 "UnibusMachine$Drive" "bits" "I") (by decide +kernel)) (u_same (hts (.sameField "UnibusMachine$Drive" "UnibusMachine$Line" "bits" "I") (by decide +kernel))) rfl (by decide +kernel) rfl rfl (Nat.le_of_ble_eq_true rfl) dX1_init_52 (fun H locs hP hD hS => ?_)
  have hP : va_P (dC, dI) vwCl [(h0, .inr (1, [.int 128, .int 0, .ref q3, .int 0, .int 0, .int 0, .int 0, .int 0, .int 0, .int 0])), (q3, .inl (cA4, 128, .inl (fun _ => 0)))] H := hP
  have hD : va_D A [(h0, .inr (1, [.int 128, .int 0, .ref q3, .int 0, .int 0, .int 0, .int 0, .int 0, .int 0, .int 0])), (q3, .inl (cA4, 128, .inl (fun _ => 0)))] := hD
  have hP9 := hP.sub (ws' := [(h0, .inr (1, [.int 128, .int 0, .ref q3, .int 0, .int 0, .int 0, .int 0, .int 0, .int 0, .int 0])), (q3, .inl (cA4, 128, .inl (fun _ => 0)))]) [0, 1] rfl
  have hD9 := hD.sub (ws' := [(h0, .inr (1, [.int 128, .int 0, .ref q3, .int 0, .int 0, .int 0, .int 0, .int 0, .int 0, .int 0])), (q3, .inl (cA4, 128, .inl (fun _ => 0)))]) [0, 1] (by decide) rfl
  have hK9 := hK.sub (tys' := [(cA4, .int)]) [0] rfl
  exact W.vret hx hb hr (fun t ht hW => ⟨⟨(), rfl, trivial, q3, cA4, by rw [ht]; exact hP9, va_K.moved hW.alike hK9, hD9⟩, hS.F ht⟩) hS.2.2 dX1_init_55
set_option maxHeartbeats 4000000 in
set_option maxRecDepth 100000 in
theorem c_k_PageMap (l : Launch) (dC : Nat → ClassId) (dI : Nat → Nat → Nat) (h0 : Nat) (sz : Nat) : Met l yX4_init wsX4_init ({ frames := 1, cells := 2, slots := 32, locals := 12 } : Room) (va_Pc [.ref h0] (fun U => U.heap.size = sz ∧ va_P (dC, dI) vwCl [(h0, .inr (3, [.null, .null, .int 0]))] U.heap ∧ va_K (dC, dI) vwCl [] U ∧ va_D (fun _ => True) [(h0, .inr (3, [.null, .null, .int 0]))])) (va_Qv (fun (u : Unit) => True) (fun (u : Unit) (t : State) => ∃ (ad : Nat) (ab : Nat) (td : ClassId) (tb : ClassId), va_P (dC, dI) vwCl [(h0, .inr (3, [.ref ad, .ref ab, .int 0])), (ad, .inl (td, 16, .inl (fun _ => 0))), (ab, .inl (tb, 16, .inl (fun _ => 0)))] t.heap ∧ va_K (dC, dI) vwCl [(td, .int), (tb, .int)] t ∧ va_D (va_A [(h0, .inr (3, [.null, .null, .int 0]))] sz) [(h0, .inr (3, [.ref ad, .ref ab, .int 0])), (ad, .inl (td, 16, .inl (fun _ => 0))), (ab, .inl (tb, 16, .inl (fun _ => 0)))]) (va_A [(h0, .inr (3, [.null, .null, .int 0]))] sz)) 2 32 (va_A [(h0, .inr (3, [.null, .null, .int 0]))] sz) := by
  refine Met.ofW (cc := cX4_init) (maxL := 1) (ret := none) (by decide) rfl ?_
  intro p e s m args below meth c s₁ B hml hv
  obtain ⟨rfl, hsz, hP, hK, hD0⟩ := hv
  have hx := B.exec
  have hb := B.bytes
  have hr := B.returns
  have hts := atoms_spec (ws := wsX4_init) B.pre
  have hown : s.vm.findClass RX4 = some m.cls := findClass_of_methodNamed B.named
  have hlocks := B.notSynchronized
  have hin : meth.name = "<init>" := (name_of_methodNamed B.named B.method).1
  have hD := hD0.self (sz := sz)
  generalize hAe : va_A [(h0, .inr (3, [.null, .null, .int 0]))] sz = A at hD ⊢
  have hA : ∀ q : Nat, s.heap.size ≤ q → A q := fun q h => by rw [← hAe]; exact Or.inr (by omega)
  have hS0 : ∀ G : Heap, s.heap = G → va_S A s.heap G [] := fun G h => by subst h; exact va_S.rf
  generalize hHe : s.heap = H at hP ⊢
  have hS := hS0 H hHe
  have hP : va_P (dC, dI) vwCl [(h0, .inr (3, [.null, .null, .int 0]))] H := hP
  have hD : va_D A [(h0, .inr (3, [.null, .null, .int 0]))] := hD
  have hK : va_K (dC, dI) vwCl [] s := hK
  have hl := lv_entry ([.ref h0]) (n := 1) (Nat.le_of_ble_eq_true rfl)
  rw [lg_entry_eq]
  generalize (lg_sl ([.ref h0]) ++ List.replicate (1 - (lg_sl ([.ref h0])).length) Slot.unset).toArray = ls at hl ⊢
  have hl : lv_has ls 1 [(0, .ref h0)] := hl
  refine lv_aload_n hx hb dX4_init_0 rfl (lv_at hl 0 rfl) ?_
  refine W.objInit hx hb hown (hts (.methodLink RX4 3 objectInit) (by decide +kernel)) (hts (.instanceMethod objectInit) (by decide +kernel)) (hts _ (List.mem_of_getElem? (i := 3) rfl)) rfl (by rw [hml]; exact hl.1) rfl dX4_init_1 (Nat.le_of_ble_eq_true rfl) (Nat.le_of_ble_eq_true rfl) ?_
  refine W.eq (g2 := F0 m 4 ls []) rfl ?_
  refine lv_aload_n hx hb dX4_init_4 rfl (lv_at hl 0 rfl) ?_
  refine lv_bipush (v := 16) hx hb dX4_init_5 (by decide) ?_
  refine va_newa (atype := .int) (ty := .int) (a0 := (16, .inl (fun _ => 0))) hx hb (hts (.arrayClass .int) (by decide +kernel)) rfl hK hP hD hS hA (fun _ => rfl) (by decide) (by decide) (Nat.le_of_ble_eq_true rfl) (Nat.le_of_ble_eq_true rfl) (Nat.le_of_ble_eq_true rfl) dX4_init_7 (fun q1 cA2 H hK hP hD hS => ?_)
  have hP : va_P (dC, dI) vwCl [(h0, .inr (3, [.null, .null, .int 0])), (q1, .inl (cA2, 16, .inl (fun _ => 0)))] H := hP
  have hD : va_D A [(h0, .inr (3, [.null, .null, .int 0])), (q1, .inl (cA2, 16, .inl (fun _ => 0)))] := hD
  have hK : va_K (dC, dI) vwCl [(cA2, .int)] s := hK
  refine W.widen (k := 1) (n := 16) (Nat.le_of_ble_eq_true rfl) (Nat.le_of_ble_eq_true rfl) ?_
  refine va_putF (D := (dC, dI)) (ci := 3) (v := .ref q1) (ty := .array .int) (C := RX4) (T := TX4) (N := 3) hx hb hts (by decide +kernel) tyX4 tyX4_ok nmX4 hown hK hP hD hS 0 rfl rfl 0 (by decide) (hts (.fieldLink RX4 9 "UnibusMachine$PageMap" "descriptors" "[I") (by decide +kernel)) (fun _ h9 => h9) rfl hin rfl (by decide +kernel) rfl rfl (Nat.le_of_ble_eq_true rfl) dX4_init_9 (fun H locs hP hD hS => ?_)
  have hP : va_P (dC, dI) vwCl [(h0, .inr (3, [.ref q1, .null, .int 0])), (q1, .inl (cA2, 16, .inl (fun _ => 0)))] H := hP
  have hD : va_D A [(h0, .inr (3, [.ref q1, .null, .int 0])), (q1, .inl (cA2, 16, .inl (fun _ => 0)))] := hD
  refine lv_aload_n hx hb dX4_init_12 rfl (lv_at hl 0 rfl) ?_
  refine lv_bipush (v := 16) hx hb dX4_init_13 (by decide) ?_
  refine va_newa (atype := .int) (ty := .int) (a0 := (16, .inl (fun _ => 0))) hx hb (hts (.arrayClass .int) (by decide +kernel)) rfl hK hP hD hS hA (fun _ => rfl) (by decide) (by decide) (Nat.le_of_ble_eq_true rfl) (Nat.le_of_ble_eq_true rfl) (Nat.le_of_ble_eq_true rfl) dX4_init_15 (fun q3 cA4 H hK hP hD hS => ?_)
  have hP : va_P (dC, dI) vwCl [(h0, .inr (3, [.ref q1, .null, .int 0])), (q1, .inl (cA2, 16, .inl (fun _ => 0))), (q3, .inl (cA4, 16, .inl (fun _ => 0)))] H := hP
  have hD : va_D A [(h0, .inr (3, [.ref q1, .null, .int 0])), (q1, .inl (cA2, 16, .inl (fun _ => 0))), (q3, .inl (cA4, 16, .inl (fun _ => 0)))] := hD
  have hK : va_K (dC, dI) vwCl [(cA2, .int), (cA4, .int)] s := hK
  refine W.widen (k := 2) (n := 32) (Nat.le_of_ble_eq_true rfl) (Nat.le_of_ble_eq_true rfl) ?_
  refine va_putF (D := (dC, dI)) (ci := 3) (v := .ref q3) (ty := .array .int) (C := RX4) (T := TX4) (N := 3) hx hb hts (by decide +kernel) tyX4 tyX4_ok nmX4 hown hK hP hD hS 0 rfl rfl 1 (by decide) (hts (.fieldLink RX4 13 "UnibusMachine$PageMap" "bases" "[I") (by decide +kernel)) (fun _ h9 => h9) rfl hin rfl (by decide +kernel) rfl rfl (Nat.le_of_ble_eq_true rfl) dX4_init_17 (fun H locs hP hD hS => ?_)
  have hP : va_P (dC, dI) vwCl [(h0, .inr (3, [.ref q1, .ref q3, .int 0])), (q1, .inl (cA2, 16, .inl (fun _ => 0))), (q3, .inl (cA4, 16, .inl (fun _ => 0)))] H := hP
  have hD : va_D A [(h0, .inr (3, [.ref q1, .ref q3, .int 0])), (q1, .inl (cA2, 16, .inl (fun _ => 0))), (q3, .inl (cA4, 16, .inl (fun _ => 0)))] := hD
  refine lv_aload_n hx hb dX4_init_20 rfl (lv_at hl 0 rfl) ?_
  refine lv_iconst (v := 0) hx hb dX4_init_21 (by decide) ?_
  refine va_put (D := (dC, dI)) (ci := 3) (v := .int 0) (ty := .int) (C := RX4) (T := TX4) (N := 3) hx hb hts (by decide +kernel) tyX4 tyX4_ok nmX4 hown hK hP hD hS 0 rfl rfl 2 (by decide) (hts (.fieldLink RX4 16 "UnibusMachine$PageMap" "control" "I") (by decide +kernel)) (fun _ h9 => h9) rfl (by decide +kernel) rfl rfl (Nat.le_of_ble_eq_true rfl) dX4_init_22 (fun H locs hP hD hS => ?_)
  have hP : va_P (dC, dI) vwCl [(h0, .inr (3, [.ref q1, .ref q3, .int 0])), (q1, .inl (cA2, 16, .inl (fun _ => 0))), (q3, .inl (cA4, 16, .inl (fun _ => 0)))] H := hP
  have hD : va_D A [(h0, .inr (3, [.ref q1, .ref q3, .int 0])), (q1, .inl (cA2, 16, .inl (fun _ => 0))), (q3, .inl (cA4, 16, .inl (fun _ => 0)))] := hD
  have hP9 := hP.sub (ws' := [(h0, .inr (3, [.ref q1, .ref q3, .int 0])), (q1, .inl (cA2, 16, .inl (fun _ => 0))), (q3, .inl (cA4, 16, .inl (fun _ => 0)))]) [0, 1, 2] rfl
  have hD9 := hD.sub (ws' := [(h0, .inr (3, [.ref q1, .ref q3, .int 0])), (q1, .inl (cA2, 16, .inl (fun _ => 0))), (q3, .inl (cA4, 16, .inl (fun _ => 0)))]) [0, 1, 2] (by decide) rfl
  have hK9 := hK.sub (tys' := [(cA2, .int), (cA4, .int)]) [0, 1] rfl
  exact W.vret hx hb hr (fun t ht hW => ⟨⟨(), rfl, trivial, q1, q3, cA2, cA4, by rw [ht]; exact hP9, va_K.moved hW.alike hK9, hD9⟩, hS.F ht⟩) hS.2.2 dX4_init_25
set_option maxHeartbeats 4000000 in
set_option maxRecDepth 100000 in
theorem c_k_Status (l : Launch) (dC : Nat → ClassId) (dI : Nat → Nat → Nat) (h0 : Nat) (sz : Nat) : Met l yX7_init wsX7_init ({ frames := 1, cells := 0, slots := 0, locals := 12 } : Room) (va_Pc [.ref h0] (fun U => U.heap.size = sz ∧ va_P (dC, dI) vwCl [(h0, .inr (6, [.int 0, .int 0]))] U.heap ∧ va_K (dC, dI) vwCl [] U ∧ va_D (fun _ => True) [(h0, .inr (6, [.int 0, .int 0]))])) (va_Qv (fun (u : Unit) => True) (fun (u : Unit) (t : State) => va_P (dC, dI) vwCl [(h0, .inr (6, [.int 0, .int (-1)]))] t.heap ∧ va_K (dC, dI) vwCl [] t ∧ va_D (va_A [(h0, .inr (6, [.int 0, .int 0]))] sz) [(h0, .inr (6, [.int 0, .int (-1)]))]) (va_A [(h0, .inr (6, [.int 0, .int 0]))] sz)) 0 0 (va_A [(h0, .inr (6, [.int 0, .int 0]))] sz) := by
  refine Met.ofW (cc := cX7_init) (maxL := 1) (ret := none) (by decide) rfl ?_
  intro p e s m args below meth c s₁ B hml hv
  obtain ⟨rfl, hsz, hP, hK, hD0⟩ := hv
  have hx := B.exec
  have hb := B.bytes
  have hr := B.returns
  have hts := atoms_spec (ws := wsX7_init) B.pre
  have hown : s.vm.findClass RX7 = some m.cls := findClass_of_methodNamed B.named
  have hlocks := B.notSynchronized
  have hin : meth.name = "<init>" := (name_of_methodNamed B.named B.method).1
  have hD := hD0.self (sz := sz)
  generalize hAe : va_A [(h0, .inr (6, [.int 0, .int 0]))] sz = A at hD ⊢
  have hA : ∀ q : Nat, s.heap.size ≤ q → A q := fun q h => by rw [← hAe]; exact Or.inr (by omega)
  have hS0 : ∀ G : Heap, s.heap = G → va_S A s.heap G [] := fun G h => by subst h; exact va_S.rf
  generalize hHe : s.heap = H at hP ⊢
  have hS := hS0 H hHe
  have hP : va_P (dC, dI) vwCl [(h0, .inr (6, [.int 0, .int 0]))] H := hP
  have hD : va_D A [(h0, .inr (6, [.int 0, .int 0]))] := hD
  have hK : va_K (dC, dI) vwCl [] s := hK
  have hl := lv_entry ([.ref h0]) (n := 1) (Nat.le_of_ble_eq_true rfl)
  rw [lg_entry_eq]
  generalize (lg_sl ([.ref h0]) ++ List.replicate (1 - (lg_sl ([.ref h0])).length) Slot.unset).toArray = ls at hl ⊢
  have hl : lv_has ls 1 [(0, .ref h0)] := hl
  refine lv_aload_n hx hb dX7_init_0 rfl (lv_at hl 0 rfl) ?_
  refine W.objInit hx hb hown (hts (.methodLink RX7 1 objectInit) (by decide +kernel)) (hts (.instanceMethod objectInit) (by decide +kernel)) (hts _ (List.mem_of_getElem? (i := 3) rfl)) rfl (by rw [hml]; exact hl.1) rfl dX7_init_1 (Nat.le_of_ble_eq_true rfl) (Nat.le_of_ble_eq_true rfl) ?_
  refine W.eq (g2 := F0 m 4 ls []) rfl ?_
  refine lv_aload_n hx hb dX7_init_4 rfl (lv_at hl 0 rfl) ?_
  refine lv_iconst (v := 0) hx hb dX7_init_5 (by decide) ?_
  refine va_put (D := (dC, dI)) (ci := 6) (v := .int 0) (ty := .int) (C := RX7) (T := TX7) (N := 2) hx hb hts (by decide +kernel) tyX7 tyX7_ok nmX7 hown hK hP hD hS 0 rfl rfl 0 (by decide) (hts (.fieldLink RX7 7 "UnibusMachine$Status" "now" "I") (by decide +kernel)) (fun _ h9 => h9) rfl (by decide +kernel) rfl rfl (Nat.le_of_ble_eq_true rfl) dX7_init_6 (fun H locs hP hD hS => ?_)
  have hP : va_P (dC, dI) vwCl [(h0, .inr (6, [.int 0, .int 0]))] H := hP
  have hD : va_D A [(h0, .inr (6, [.int 0, .int 0]))] := hD
  refine lv_aload_n hx hb dX7_init_9 rfl (lv_at hl 0 rfl) ?_
  refine lv_iconst (v := (-1)) hx hb dX7_init_10 (by decide) ?_
  refine va_put (D := (dC, dI)) (ci := 6) (v := .int (-1)) (ty := .int) (C := RX7) (T := TX7) (N := 2) hx hb hts (by decide +kernel) tyX7 tyX7_ok nmX7 hown hK hP hD hS 0 rfl rfl 1 (by decide) (hts (.fieldLink RX7 13 "UnibusMachine$Status" "written" "I") (by decide +kernel)) (fun _ h9 => h9) rfl (by decide +kernel) rfl rfl (Nat.le_of_ble_eq_true rfl) dX7_init_11 (fun H locs hP hD hS => ?_)
  have hP : va_P (dC, dI) vwCl [(h0, .inr (6, [.int 0, .int (-1)]))] H := hP
  have hD : va_D A [(h0, .inr (6, [.int 0, .int (-1)]))] := hD
  have hP9 := hP.sub (ws' := [(h0, .inr (6, [.int 0, .int (-1)]))]) [0] rfl
  have hD9 := hD.sub (ws' := [(h0, .inr (6, [.int 0, .int (-1)]))]) [0] (by decide) rfl
  have hK9 := hK.sub (tys' := []) [] rfl
  exact W.vret hx hb hr (fun t ht hW => ⟨⟨(), rfl, trivial, by rw [ht]; exact hP9, va_K.moved hW.alike hK9, hD9⟩, hS.F ht⟩) hS.2.2 dX7_init_14
set_option maxHeartbeats 4000000 in
set_option maxRecDepth 100000 in
theorem c_k_Bus (l : Launch) (dC : Nat → ClassId) (dI : Nat → Nat → Nat) (h0 : Nat) (sz : Nat) : Met l yX0_init wsX0_init ({ frames := 3, cells := 10, slots := 729, locals := 52 } : Room) (va_Pc [.ref h0] (fun U => U.heap.size = sz ∧ va_P (dC, dI) vwCl [(h0, .inr (0, [.null, .null, .null, .null, .null, .null]))] U.heap ∧ va_K (dC, dI) vwCl [] U ∧ va_D (fun _ => True) [(h0, .inr (0, [.null, .null, .null, .null, .null, .null]))] ∧ va_Nw (.methodLinkNest RX0 15 yX4_init "UnibusMachine") U ∧ va_Nw (.methodLinkNest RX0 22 yX7_init "UnibusMachine") U ∧ va_Nw (.methodLinkNest RX0 29 yX2_init "UnibusMachine") U ∧ va_Nw (.methodLinkNest RX2 1 yX3_init "UnibusMachine") U ∧ va_Nw (.methodLinkNest RX5 1 yX3_init "UnibusMachine") U ∧ va_Nw (.methodLinkNest RX1 1 yX3_init "UnibusMachine") U)) (va_Qv (fun (u : Unit) => True) (fun (u : Unit) (t : State) => ∃ (am : Nat) (oM : Nat) (oS : Nat) (oK : Nat) (oL : Nat) (oD : Nat) (ad : Nat) (ab : Nat) (ap : Nat) (aw : Nat) (tm : ClassId) (td : ClassId) (tb : ClassId) (tp : ClassId) (tw : ClassId), va_P (dC, dI) vwCl [(h0, .inr (0, [.ref am, .ref oM, .ref oS, .ref oK, .ref oL, .ref oD])), (am, .inl (tm, 512, .inl (fun _ => 0))), (oM, .inr (3, [.ref ad, .ref ab, .int 0])), (ad, .inl (td, 16, .inl (fun _ => 0))), (ab, .inl (tb, 16, .inl (fun _ => 0))), (oS, .inr (6, [.int 0, .int (-1)])), (oK, .inr (2, [.int 0, .int 0, .int 0])), (oL, .inr (4, [.int 128, .int 0, .ref ap, .int 0, .int 0, .int 0, .int 0])), (ap, .inl (tp, 32, .inl (fun _ => 0))), (oD, .inr (1, [.int 128, .int 0, .ref aw, .int 0, .int 0, .int 0, .int 0, .int 0, .int 0, .int 0])), (aw, .inl (tw, 128, .inl (fun _ => 0)))] t.heap ∧ va_K (dC, dI) vwCl [(tm, .int), (td, .int), (tb, .int), (tp, .int), (tw, .int)] t ∧ va_D (va_A [(h0, .inr (0, [.null, .null, .null, .null, .null, .null]))] sz) [(h0, .inr (0, [.ref am, .ref oM, .ref oS, .ref oK, .ref oL, .ref oD])), (am, .inl (tm, 512, .inl (fun _ => 0))), (oM, .inr (3, [.ref ad, .ref ab, .int 0])), (ad, .inl (td, 16, .inl (fun _ => 0))), (ab, .inl (tb, 16, .inl (fun _ => 0))), (oS, .inr (6, [.int 0, .int (-1)])), (oK, .inr (2, [.int 0, .int 0, .int 0])), (oL, .inr (4, [.int 128, .int 0, .ref ap, .int 0, .int 0, .int 0, .int 0])), (ap, .inl (tp, 32, .inl (fun _ => 0))), (oD, .inr (1, [.int 128, .int 0, .ref aw, .int 0, .int 0, .int 0, .int 0, .int 0, .int 0, .int 0])), (aw, .inl (tw, 128, .inl (fun _ => 0)))]) (va_A [(h0, .inr (0, [.null, .null, .null, .null, .null, .null]))] sz)) 10 729 (va_A [(h0, .inr (0, [.null, .null, .null, .null, .null, .null]))] sz) := by
  refine Met.ofW (cc := cX0_init) (maxL := 1) (ret := none) (by decide) rfl ?_
  intro p e s m args below meth c s₁ B hml hv
  obtain ⟨rfl, hsz, hP, hK, hD0, hnX0_15, hnX0_22, hnX0_29, hnX2_1, hnX5_1, hnX1_1⟩ := hv
  have hx := B.exec
  have hb := B.bytes
  have hr := B.returns
  have hts := atoms_spec (ws := wsX0_init) B.pre
  have hown : s.vm.findClass RX0 = some m.cls := findClass_of_methodNamed B.named
  have hlocks := B.notSynchronized
  have hin : meth.name = "<init>" := (name_of_methodNamed B.named B.method).1
  have hD := hD0.self (sz := sz)
  generalize hAe : va_A [(h0, .inr (0, [.null, .null, .null, .null, .null, .null]))] sz = A at hD ⊢
  have hA : ∀ q : Nat, s.heap.size ≤ q → A q := fun q h => by rw [← hAe]; exact Or.inr (by omega)
  have hS0 : ∀ G : Heap, s.heap = G → va_S A s.heap G [] := fun G h => by subst h; exact va_S.rf
  generalize hHe : s.heap = H at hP ⊢
  have hS := hS0 H hHe
  have hP : va_P (dC, dI) vwCl [(h0, .inr (0, [.null, .null, .null, .null, .null, .null]))] H := hP
  have hD : va_D A [(h0, .inr (0, [.null, .null, .null, .null, .null, .null]))] := hD
  have hK : va_K (dC, dI) vwCl [] s := hK
  have hl := lv_entry ([.ref h0]) (n := 1) (Nat.le_of_ble_eq_true rfl)
  rw [lg_entry_eq]
  generalize (lg_sl ([.ref h0]) ++ List.replicate (1 - (lg_sl ([.ref h0])).length) Slot.unset).toArray = ls at hl ⊢
  have hl : lv_has ls 1 [(0, .ref h0)] := hl
  refine lv_aload_n hx hb dX0_init_0 rfl (lv_at hl 0 rfl) ?_
  refine W.objInit hx hb hown (hts (.methodLink RX0 1 objectInit) (by decide +kernel)) (hts (.instanceMethod objectInit) (by decide +kernel)) (hts _ (List.mem_of_getElem? (i := 3) rfl)) rfl (by rw [hml]; exact hl.1) rfl dX0_init_1 (Nat.le_of_ble_eq_true rfl) (Nat.le_of_ble_eq_true rfl) ?_
  refine W.eq (g2 := F0 m 4 ls []) rfl ?_
  refine lv_aload_n hx hb dX0_init_4 rfl (lv_at hl 0 rfl) ?_
  refine lv_sipush (v := 512) hx hb dX0_init_5 (by decide) ?_
  refine va_newa (atype := .int) (ty := .int) (a0 := (512, .inl (fun _ => 0))) hx hb (hts (.arrayClass .int) (by decide +kernel)) rfl hK hP hD hS hA (fun _ => rfl) (by decide) (by decide) (Nat.le_of_ble_eq_true rfl) (Nat.le_of_ble_eq_true rfl) (Nat.le_of_ble_eq_true rfl) dX0_init_8 (fun q1 cA2 H hK hP hD hS => ?_)
  have hP : va_P (dC, dI) vwCl [(h0, .inr (0, [.null, .null, .null, .null, .null, .null])), (q1, .inl (cA2, 512, .inl (fun _ => 0)))] H := hP
  have hD : va_D A [(h0, .inr (0, [.null, .null, .null, .null, .null, .null])), (q1, .inl (cA2, 512, .inl (fun _ => 0)))] := hD
  have hK : va_K (dC, dI) vwCl [(cA2, .int)] s := hK
  refine W.widen (k := 1) (n := 512) (Nat.le_of_ble_eq_true rfl) (Nat.le_of_ble_eq_true rfl) ?_
  refine va_putF (D := (dC, dI)) (ci := 0) (v := .ref q1) (ty := .array .int) (C := RX0) (T := TX0) (N := 6) hx hb hts (by decide +kernel) tyX0 tyX0_ok nmX0 hown hK hP hD hS 0 rfl rfl 0 (by decide) (hts (.fieldLink RX0 9 "UnibusMachine$Bus" "memory" "[I") (by decide +kernel)) (fun _ h9 => h9) rfl hin rfl (by decide +kernel) rfl rfl (Nat.le_of_ble_eq_true rfl) dX0_init_10 (fun H locs hP hD hS => ?_)
  have hP : va_P (dC, dI) vwCl [(h0, .inr (0, [.ref q1, .null, .null, .null, .null, .null])), (q1, .inl (cA2, 512, .inl (fun _ => 0)))] H := hP
  have hD : va_D A [(h0, .inr (0, [.ref q1, .null, .null, .null, .null, .null])), (q1, .inl (cA2, 512, .inl (fun _ => 0)))] := hD
  refine lv_aload_n hx hb dX0_init_13 rfl (lv_at hl 0 rfl) ?_
  refine va_new (D := (dC, dI)) (ci := 3) (fs := [.null, .null, .int 0]) (C := RX4) (T := TX4) (N := 3) hx hb hts (by decide +kernel) tyX4 tyX4_ok hown (hts (.classLink RX0 13 RX4) (by decide +kernel)) (hts (.instantiable RX4 3) (by decide +kernel)) (hts (.initialized RX4) (by decide +kernel)) hK hP hD hS hA rfl (fun j hj => by rcases (show j = 0 ∨ j = 1 ∨ j = 2 by omega) with rfl | rfl | rfl <;> rfl) (Nat.le_of_ble_eq_true rfl) (Nat.le_of_ble_eq_true rfl) dX0_init_14 (fun q3 H hP hD hS => ?_)
  have hP : va_P (dC, dI) vwCl [(h0, .inr (0, [.ref q1, .null, .null, .null, .null, .null])), (q1, .inl (cA2, 512, .inl (fun _ => 0))), (q3, .inr (3, [.null, .null, .int 0]))] H := hP
  have hD : va_D A [(h0, .inr (0, [.ref q1, .null, .null, .null, .null, .null])), (q1, .inl (cA2, 512, .inl (fun _ => 0))), (q3, .inr (3, [.null, .null, .int 0]))] := hD
  refine W.widen (k := 2) (n := 515) (Nat.le_of_ble_eq_true rfl) (Nat.le_of_ble_eq_true rfl) ?_
  refine lv_dup hx hb dX0_init_17 rfl ?_
  have hPc := hP.sub (ws' := [(q3, .inr (3, [.null, .null, .int 0]))]) [2] rfl
  have hDc := hD.sub (ws' := [(q3, .inr (3, [.null, .null, .int 0]))]) [2] (by decide) rfl
  have hKc := hK.sub (tys' := []) [] rfl
  have hFc := va_free (wc := [(q3, .inr (3, [.null, .null, .int 0]))]) hD hS hA [2] rfl
  refine va_callv (va_runIN (As := []) (rest := [.ref q3, .ref h0]) ⟨hx, hb, hml, hown, hts⟩ (c_k_PageMap l dC dI q3 H.size) ⟨va_cnB (host := "UnibusMachine") 0 hts gX0_init_X4_init_n15 rfl rfl rfl hnX0_15 (hts (.initialized RX4) (by decide +kernel)) (by decide +kernel) ⟨Nat.le_of_ble_eq_true rfl, Nat.le_of_ble_eq_true rfl⟩, rfl, (hts (.instanceMethod yX4_init) (by decide +kernel))⟩ ⟨fun a U g mk q => by obtain ⟨q0, q1, qP, qK, qD⟩ := q; exact ⟨q0, q1, qP, va_K.moved (u := U) (U := U.calling g mk a) (Vm.Alike.refl U.vm) qK, qD⟩, fun U hU hW => ⟨rfl, by rw [hU], by rw [hU]; exact hPc, va_K.moved hW.alike hKc, hDc.weaken (fun _ _ _ _ => trivial)⟩⟩ rfl rfl hl.1 rfl (lv_room (Nat.le_of_ble_eq_true rfl)) dX0_init_18 ⟨Nat.le_of_ble_eq_true rfl, Nat.le_of_ble_eq_true rfl⟩) hS (fun q _ h => hFc q h) hFc (fun u9 t H1 locs ht hvm hw hB hz1 hk1 hS => ?_)
  obtain ⟨ad4, ab5, td6, tb7, hP1, hK1, hD1⟩ := hB
  rw [ht] at hP1
  have hK1 := va_K.moved hvm.symm hK1
  try dsimp only at hw
  obtain ⟨hP, hD⟩ := va_join (wr := [(h0, .inr (0, [.ref q1, .null, .null, .null, .null, .null])), (q1, .inl (cA2, 512, .inl (fun _ => 0)))]) (w1 := [(q3, .inr (3, [.ref ad4, .ref ab5, .int 0])), (ad4, .inl (td6, 16, .inl (fun _ => 0))), (ab5, .inl (tb7, 16, .inl (fun _ => 0)))]) hP hD [2] [0, 1] rfl rfl (by decide) (by decide) hk1 hFc hP1 hD1
  have hK := (hK.sub (tys' := [(cA2, .int)]) [0] rfl).app hK1
  generalize H1 = H at hP hS ⊢
  have hP : va_P (dC, dI) vwCl [(h0, .inr (0, [.ref q1, .null, .null, .null, .null, .null])), (q1, .inl (cA2, 512, .inl (fun _ => 0))), (q3, .inr (3, [.ref ad4, .ref ab5, .int 0])), (ad4, .inl (td6, 16, .inl (fun _ => 0))), (ab5, .inl (tb7, 16, .inl (fun _ => 0)))] H := hP
  have hD : va_D A [(h0, .inr (0, [.ref q1, .null, .null, .null, .null, .null])), (q1, .inl (cA2, 512, .inl (fun _ => 0))), (q3, .inr (3, [.ref ad4, .ref ab5, .int 0])), (ad4, .inl (td6, 16, .inl (fun _ => 0))), (ab5, .inl (tb7, 16, .inl (fun _ => 0)))] := hD
  have hK : va_K (dC, dI) vwCl [(cA2, .int), (td6, .int), (tb7, .int)] s := hK
  refine W.widen (k := 4) (n := 547) (Nat.le_of_ble_eq_true rfl) (Nat.le_of_ble_eq_true rfl) ?_
  refine va_putF (D := (dC, dI)) (ci := 0) (v := .ref q3) (ty := .object "UnibusMachine$PageMap") (C := RX0) (T := TX0) (N := 6) hx hb hts (by decide +kernel) tyX0 tyX0_ok nmX0 hown hK hP hD hS 0 rfl rfl 1 (by decide) (hts (.fieldLink RX0 16 "UnibusMachine$Bus" "map" "LUnibusMachine$PageMap;") (by decide +kernel)) (fun _ h9 => h9) rfl hin rfl (by decide +kernel) rfl rfl (Nat.le_of_ble_eq_true rfl) dX0_init_21 (fun H locs hP hD hS => ?_)
  have hP : va_P (dC, dI) vwCl [(h0, .inr (0, [.ref q1, .ref q3, .null, .null, .null, .null])), (q1, .inl (cA2, 512, .inl (fun _ => 0))), (q3, .inr (3, [.ref ad4, .ref ab5, .int 0])), (ad4, .inl (td6, 16, .inl (fun _ => 0))), (ab5, .inl (tb7, 16, .inl (fun _ => 0)))] H := hP
  have hD : va_D A [(h0, .inr (0, [.ref q1, .ref q3, .null, .null, .null, .null])), (q1, .inl (cA2, 512, .inl (fun _ => 0))), (q3, .inr (3, [.ref ad4, .ref ab5, .int 0])), (ad4, .inl (td6, 16, .inl (fun _ => 0))), (ab5, .inl (tb7, 16, .inl (fun _ => 0)))] := hD
  refine lv_aload_n hx hb dX0_init_24 rfl (lv_at hl 0 rfl) ?_
  refine va_new (D := (dC, dI)) (ci := 6) (fs := [.int 0, .int 0]) (C := RX7) (T := TX7) (N := 2) hx hb hts (by decide +kernel) tyX7 tyX7_ok hown (hts (.classLink RX0 20 RX7) (by decide +kernel)) (hts (.instantiable RX7 2) (by decide +kernel)) (hts (.initialized RX7) (by decide +kernel)) hK hP hD hS hA rfl (fun j hj => by rcases (show j = 0 ∨ j = 1 by omega) with rfl | rfl <;> rfl) (Nat.le_of_ble_eq_true rfl) (Nat.le_of_ble_eq_true rfl) dX0_init_25 (fun q10 H hP hD hS => ?_)
  have hP : va_P (dC, dI) vwCl [(h0, .inr (0, [.ref q1, .ref q3, .null, .null, .null, .null])), (q1, .inl (cA2, 512, .inl (fun _ => 0))), (q3, .inr (3, [.ref ad4, .ref ab5, .int 0])), (ad4, .inl (td6, 16, .inl (fun _ => 0))), (ab5, .inl (tb7, 16, .inl (fun _ => 0))), (q10, .inr (6, [.int 0, .int 0]))] H := hP
  have hD : va_D A [(h0, .inr (0, [.ref q1, .ref q3, .null, .null, .null, .null])), (q1, .inl (cA2, 512, .inl (fun _ => 0))), (q3, .inr (3, [.ref ad4, .ref ab5, .int 0])), (ad4, .inl (td6, 16, .inl (fun _ => 0))), (ab5, .inl (tb7, 16, .inl (fun _ => 0))), (q10, .inr (6, [.int 0, .int 0]))] := hD
  refine W.widen (k := 5) (n := 549) (Nat.le_of_ble_eq_true rfl) (Nat.le_of_ble_eq_true rfl) ?_
  refine lv_dup hx hb dX0_init_28 rfl ?_
  have hPc := hP.sub (ws' := [(q10, .inr (6, [.int 0, .int 0]))]) [5] rfl
  have hDc := hD.sub (ws' := [(q10, .inr (6, [.int 0, .int 0]))]) [5] (by decide) rfl
  have hKc := hK.sub (tys' := []) [] rfl
  have hFc := va_free (wc := [(q10, .inr (6, [.int 0, .int 0]))]) hD hS hA [5] rfl
  refine va_callv (va_runIN (As := []) (rest := [.ref q10, .ref h0]) ⟨hx, hb, hml, hown, hts⟩ (c_k_Status l dC dI q10 H.size) ⟨va_cnB (host := "UnibusMachine") 0 hts gX0_init_X7_init_n22 rfl rfl rfl hnX0_22 (hts (.initialized RX7) (by decide +kernel)) (by decide +kernel) ⟨Nat.le_of_ble_eq_true rfl, Nat.le_of_ble_eq_true rfl⟩, rfl, (hts (.instanceMethod yX7_init) (by decide +kernel))⟩ ⟨fun a U g mk q => by obtain ⟨q0, q1, qP, qK, qD⟩ := q; exact ⟨q0, q1, qP, va_K.moved (u := U) (U := U.calling g mk a) (Vm.Alike.refl U.vm) qK, qD⟩, fun U hU hW => ⟨rfl, by rw [hU], by rw [hU]; exact hPc, va_K.moved hW.alike hKc, hDc.weaken (fun _ _ _ _ => trivial)⟩⟩ rfl rfl hl.1 rfl (lv_room (Nat.le_of_ble_eq_true rfl)) dX0_init_29 ⟨Nat.le_of_ble_eq_true rfl, Nat.le_of_ble_eq_true rfl⟩) hS (fun q _ h => hFc q h) hFc (fun u12 t H1 locs ht hvm hw hB hz1 hk1 hS => ?_)
  obtain ⟨hP1, hK1, hD1⟩ := hB
  rw [ht] at hP1
  have hK1 := va_K.moved hvm.symm hK1
  try dsimp only at hw
  obtain ⟨hP, hD⟩ := va_join (wr := [(h0, .inr (0, [.ref q1, .ref q3, .null, .null, .null, .null])), (q1, .inl (cA2, 512, .inl (fun _ => 0))), (q3, .inr (3, [.ref ad4, .ref ab5, .int 0])), (ad4, .inl (td6, 16, .inl (fun _ => 0))), (ab5, .inl (tb7, 16, .inl (fun _ => 0)))]) (w1 := [(q10, .inr (6, [.int 0, .int (-1)]))]) hP hD [5] [0, 1, 2, 3, 4] rfl rfl (by decide) (by decide) hk1 hFc hP1 hD1
  have hK := (hK.sub (tys' := [(cA2, .int), (td6, .int), (tb7, .int)]) [0, 1, 2] rfl).app hK1
  generalize H1 = H at hP hS ⊢
  have hP : va_P (dC, dI) vwCl [(h0, .inr (0, [.ref q1, .ref q3, .null, .null, .null, .null])), (q1, .inl (cA2, 512, .inl (fun _ => 0))), (q3, .inr (3, [.ref ad4, .ref ab5, .int 0])), (ad4, .inl (td6, 16, .inl (fun _ => 0))), (ab5, .inl (tb7, 16, .inl (fun _ => 0))), (q10, .inr (6, [.int 0, .int (-1)]))] H := hP
  have hD : va_D A [(h0, .inr (0, [.ref q1, .ref q3, .null, .null, .null, .null])), (q1, .inl (cA2, 512, .inl (fun _ => 0))), (q3, .inr (3, [.ref ad4, .ref ab5, .int 0])), (ad4, .inl (td6, 16, .inl (fun _ => 0))), (ab5, .inl (tb7, 16, .inl (fun _ => 0))), (q10, .inr (6, [.int 0, .int (-1)]))] := hD
  have hK : va_K (dC, dI) vwCl [(cA2, .int), (td6, .int), (tb7, .int)] s := hK
  refine W.widen (k := 5) (n := 549) (Nat.le_of_ble_eq_true rfl) (Nat.le_of_ble_eq_true rfl) ?_
  refine va_putF (D := (dC, dI)) (ci := 0) (v := .ref q10) (ty := .object "UnibusMachine$Status") (C := RX0) (T := TX0) (N := 6) hx hb hts (by decide +kernel) tyX0 tyX0_ok nmX0 hown hK hP hD hS 0 rfl rfl 2 (by decide) (hts (.fieldLink RX0 23 "UnibusMachine$Bus" "status" "LUnibusMachine$Status;") (by decide +kernel)) (fun _ h9 => h9) rfl hin rfl (by decide +kernel) rfl rfl (Nat.le_of_ble_eq_true rfl) dX0_init_32 (fun H locs hP hD hS => ?_)
  have hP : va_P (dC, dI) vwCl [(h0, .inr (0, [.ref q1, .ref q3, .ref q10, .null, .null, .null])), (q1, .inl (cA2, 512, .inl (fun _ => 0))), (q3, .inr (3, [.ref ad4, .ref ab5, .int 0])), (ad4, .inl (td6, 16, .inl (fun _ => 0))), (ab5, .inl (tb7, 16, .inl (fun _ => 0))), (q10, .inr (6, [.int 0, .int (-1)]))] H := hP
  have hD : va_D A [(h0, .inr (0, [.ref q1, .ref q3, .ref q10, .null, .null, .null])), (q1, .inl (cA2, 512, .inl (fun _ => 0))), (q3, .inr (3, [.ref ad4, .ref ab5, .int 0])), (ad4, .inl (td6, 16, .inl (fun _ => 0))), (ab5, .inl (tb7, 16, .inl (fun _ => 0))), (q10, .inr (6, [.int 0, .int (-1)]))] := hD
  refine lv_aload_n hx hb dX0_init_35 rfl (lv_at hl 0 rfl) ?_
  refine va_new (D := (dC, dI)) (ci := 2) (fs := [.int 0, .int 0, .int 0]) (C := RX2) (T := TX2) (N := 3) hx hb hts (by decide +kernel) tyX2 tyX2_ok hown (hts (.classLink RX0 27 RX2) (by decide +kernel)) (hts (.instantiable RX2 3) (by decide +kernel)) (hts (.initialized RX2) (by decide +kernel)) hK hP hD hS hA rfl (fun j hj => by rcases (show j = 0 ∨ j = 1 ∨ j = 2 by omega) with rfl | rfl | rfl <;> rfl) (Nat.le_of_ble_eq_true rfl) (Nat.le_of_ble_eq_true rfl) dX0_init_36 (fun q13 H hP hD hS => ?_)
  have hP : va_P (dC, dI) vwCl [(h0, .inr (0, [.ref q1, .ref q3, .ref q10, .null, .null, .null])), (q1, .inl (cA2, 512, .inl (fun _ => 0))), (q3, .inr (3, [.ref ad4, .ref ab5, .int 0])), (ad4, .inl (td6, 16, .inl (fun _ => 0))), (ab5, .inl (tb7, 16, .inl (fun _ => 0))), (q10, .inr (6, [.int 0, .int (-1)])), (q13, .inr (2, [.int 0, .int 0, .int 0]))] H := hP
  have hD : va_D A [(h0, .inr (0, [.ref q1, .ref q3, .ref q10, .null, .null, .null])), (q1, .inl (cA2, 512, .inl (fun _ => 0))), (q3, .inr (3, [.ref ad4, .ref ab5, .int 0])), (ad4, .inl (td6, 16, .inl (fun _ => 0))), (ab5, .inl (tb7, 16, .inl (fun _ => 0))), (q10, .inr (6, [.int 0, .int (-1)])), (q13, .inr (2, [.int 0, .int 0, .int 0]))] := hD
  refine W.widen (k := 6) (n := 552) (Nat.le_of_ble_eq_true rfl) (Nat.le_of_ble_eq_true rfl) ?_
  refine lv_dup hx hb dX0_init_39 rfl ?_
  have hPc := hP.sub (ws' := [(q13, .inr (2, [.int 0, .int 0, .int 0]))]) [6] rfl
  have hDc := hD.sub (ws' := [(q13, .inr (2, [.int 0, .int 0, .int 0]))]) [6] (by decide) rfl
  have hKc := hK.sub (tys' := []) [] rfl
  have hFc := va_free (wc := [(q13, .inr (2, [.int 0, .int 0, .int 0]))]) hD hS hA [6] rfl
  refine va_callv (va_runIN (As := []) (rest := [.ref q13, .ref h0]) ⟨hx, hb, hml, hown, hts⟩ (c_k_Keyboard l dC dI q13 H.size) ⟨va_cnB (host := "UnibusMachine") 0 hts gX0_init_X2_init_n29 rfl rfl rfl hnX0_29 (hts (.initialized RX2) (by decide +kernel)) (by decide +kernel) ⟨Nat.le_of_ble_eq_true rfl, Nat.le_of_ble_eq_true rfl⟩, rfl, (hts (.instanceMethod yX2_init) (by decide +kernel))⟩ ⟨fun a U g mk q => by obtain ⟨q0, q1, qP, qK, qD, e0⟩ := q; exact ⟨q0, q1, qP, va_K.moved (u := U) (U := U.calling g mk a) (Vm.Alike.refl U.vm) qK, qD, va_Nw.same (U := U.calling g mk a) rfl rfl e0⟩, fun U hU hW => ⟨rfl, by rw [hU], by rw [hU]; exact hPc, va_K.moved hW.alike hKc, hDc.weaken (fun _ _ _ _ => trivial), va_Nw.warmM hW hnX2_1⟩⟩ rfl rfl hl.1 rfl (lv_room (Nat.le_of_ble_eq_true rfl)) dX0_init_40 ⟨Nat.le_of_ble_eq_true rfl, Nat.le_of_ble_eq_true rfl⟩) hS (fun q _ h => hFc q h) hFc (fun u15 t H1 locs ht hvm hw hB hz1 hk1 hS => ?_)
  obtain ⟨hP1, hK1, hD1⟩ := hB
  rw [ht] at hP1
  have hK1 := va_K.moved hvm.symm hK1
  try dsimp only at hw
  obtain ⟨hP, hD⟩ := va_join (wr := [(h0, .inr (0, [.ref q1, .ref q3, .ref q10, .null, .null, .null])), (q1, .inl (cA2, 512, .inl (fun _ => 0))), (q3, .inr (3, [.ref ad4, .ref ab5, .int 0])), (ad4, .inl (td6, 16, .inl (fun _ => 0))), (ab5, .inl (tb7, 16, .inl (fun _ => 0))), (q10, .inr (6, [.int 0, .int (-1)]))]) (w1 := [(q13, .inr (2, [.int 0, .int 0, .int 0]))]) hP hD [6] [0, 1, 2, 3, 4, 5] rfl rfl (by decide) (by decide) hk1 hFc hP1 hD1
  have hK := (hK.sub (tys' := [(cA2, .int), (td6, .int), (tb7, .int)]) [0, 1, 2] rfl).app hK1
  generalize H1 = H at hP hS ⊢
  have hP : va_P (dC, dI) vwCl [(h0, .inr (0, [.ref q1, .ref q3, .ref q10, .null, .null, .null])), (q1, .inl (cA2, 512, .inl (fun _ => 0))), (q3, .inr (3, [.ref ad4, .ref ab5, .int 0])), (ad4, .inl (td6, 16, .inl (fun _ => 0))), (ab5, .inl (tb7, 16, .inl (fun _ => 0))), (q10, .inr (6, [.int 0, .int (-1)])), (q13, .inr (2, [.int 0, .int 0, .int 0]))] H := hP
  have hD : va_D A [(h0, .inr (0, [.ref q1, .ref q3, .ref q10, .null, .null, .null])), (q1, .inl (cA2, 512, .inl (fun _ => 0))), (q3, .inr (3, [.ref ad4, .ref ab5, .int 0])), (ad4, .inl (td6, 16, .inl (fun _ => 0))), (ab5, .inl (tb7, 16, .inl (fun _ => 0))), (q10, .inr (6, [.int 0, .int (-1)])), (q13, .inr (2, [.int 0, .int 0, .int 0]))] := hD
  have hK : va_K (dC, dI) vwCl [(cA2, .int), (td6, .int), (tb7, .int)] s := hK
  refine W.widen (k := 6) (n := 552) (Nat.le_of_ble_eq_true rfl) (Nat.le_of_ble_eq_true rfl) ?_
  refine va_putF (D := (dC, dI)) (ci := 0) (v := .ref q13) (ty := .object "UnibusMachine$Keyboard") (C := RX0) (T := TX0) (N := 6) hx hb hts (by decide +kernel) tyX0 tyX0_ok nmX0 hown hK hP hD hS 0 rfl rfl 3 (by decide) (hts (.fieldLink RX0 30 "UnibusMachine$Bus" "keyboard" "LUnibusMachine$Keyboard;") (by decide +kernel)) (fun _ h9 => h9) rfl hin rfl (by decide +kernel) rfl rfl (Nat.le_of_ble_eq_true rfl) dX0_init_43 (fun H locs hP hD hS => ?_)
  have hP : va_P (dC, dI) vwCl [(h0, .inr (0, [.ref q1, .ref q3, .ref q10, .ref q13, .null, .null])), (q1, .inl (cA2, 512, .inl (fun _ => 0))), (q3, .inr (3, [.ref ad4, .ref ab5, .int 0])), (ad4, .inl (td6, 16, .inl (fun _ => 0))), (ab5, .inl (tb7, 16, .inl (fun _ => 0))), (q10, .inr (6, [.int 0, .int (-1)])), (q13, .inr (2, [.int 0, .int 0, .int 0]))] H := hP
  have hD : va_D A [(h0, .inr (0, [.ref q1, .ref q3, .ref q10, .ref q13, .null, .null])), (q1, .inl (cA2, 512, .inl (fun _ => 0))), (q3, .inr (3, [.ref ad4, .ref ab5, .int 0])), (ad4, .inl (td6, 16, .inl (fun _ => 0))), (ab5, .inl (tb7, 16, .inl (fun _ => 0))), (q10, .inr (6, [.int 0, .int (-1)])), (q13, .inr (2, [.int 0, .int 0, .int 0]))] := hD
  refine lv_aload_n hx hb dX0_init_46 rfl (lv_at hl 0 rfl) ?_
  refine va_new (D := (dC, dI)) (ci := 4) (fs := [.int 0, .int 0, .null, .int 0, .int 0, .int 0, .int 0]) (C := RX5) (T := TX5) (N := 7) hx hb hts (by decide +kernel) tyX5 tyX5_ok hown (hts (.classLink RX0 34 RX5) (by decide +kernel)) (hts (.instantiable RX5 7) (by decide +kernel)) (hts (.initialized RX5) (by decide +kernel)) hK hP hD hS hA rfl (fun j hj => by rcases (show j = 0 ∨ j = 1 ∨ j = 2 ∨ j = 3 ∨ j = 4 ∨ j = 5 ∨ j = 6 by omega) with rfl | rfl | rfl | rfl | rfl | rfl | rfl <;> rfl) (Nat.le_of_ble_eq_true rfl) (Nat.le_of_ble_eq_true rfl) dX0_init_47 (fun q16 H hP hD hS => ?_)
  have hP : va_P (dC, dI) vwCl [(h0, .inr (0, [.ref q1, .ref q3, .ref q10, .ref q13, .null, .null])), (q1, .inl (cA2, 512, .inl (fun _ => 0))), (q3, .inr (3, [.ref ad4, .ref ab5, .int 0])), (ad4, .inl (td6, 16, .inl (fun _ => 0))), (ab5, .inl (tb7, 16, .inl (fun _ => 0))), (q10, .inr (6, [.int 0, .int (-1)])), (q13, .inr (2, [.int 0, .int 0, .int 0])), (q16, .inr (4, [.int 0, .int 0, .null, .int 0, .int 0, .int 0, .int 0]))] H := hP
  have hD : va_D A [(h0, .inr (0, [.ref q1, .ref q3, .ref q10, .ref q13, .null, .null])), (q1, .inl (cA2, 512, .inl (fun _ => 0))), (q3, .inr (3, [.ref ad4, .ref ab5, .int 0])), (ad4, .inl (td6, 16, .inl (fun _ => 0))), (ab5, .inl (tb7, 16, .inl (fun _ => 0))), (q10, .inr (6, [.int 0, .int (-1)])), (q13, .inr (2, [.int 0, .int 0, .int 0])), (q16, .inr (4, [.int 0, .int 0, .null, .int 0, .int 0, .int 0, .int 0]))] := hD
  refine W.widen (k := 7) (n := 559) (Nat.le_of_ble_eq_true rfl) (Nat.le_of_ble_eq_true rfl) ?_
  refine lv_dup hx hb dX0_init_50 rfl ?_
  have hPc := hP.sub (ws' := [(q16, .inr (4, [.int 0, .int 0, .null, .int 0, .int 0, .int 0, .int 0]))]) [7] rfl
  have hDc := hD.sub (ws' := [(q16, .inr (4, [.int 0, .int 0, .null, .int 0, .int 0, .int 0, .int 0]))]) [7] (by decide) rfl
  have hKc := hK.sub (tys' := []) [] rfl
  have hFc := va_free (wc := [(q16, .inr (4, [.int 0, .int 0, .null, .int 0, .int 0, .int 0, .int 0]))]) hD hS hA [7] rfl
  refine va_callv (va_runI (As := []) (rest := [.ref q16, .ref h0]) ⟨hx, hb, hml, hown, hts⟩ (c_k_Printer l dC dI q16 H.size) (cwI 0 hts gX0_init_X5_init rfl rfl rfl (hts (.initialized RX5) (by decide +kernel)) (hts (.methodLink RX0 36 yX5_init) (by decide +kernel)) (hts (.instanceMethod yX5_init) (by decide +kernel)) rfl (by decide +kernel) ⟨Nat.le_of_ble_eq_true rfl, Nat.le_of_ble_eq_true rfl⟩) ⟨fun a U g mk q => by obtain ⟨q0, q1, qP, qK, qD, e0⟩ := q; exact ⟨q0, q1, qP, va_K.moved (u := U) (U := U.calling g mk a) (Vm.Alike.refl U.vm) qK, qD, va_Nw.same (U := U.calling g mk a) rfl rfl e0⟩, fun U hU hW => ⟨rfl, by rw [hU], by rw [hU]; exact hPc, va_K.moved hW.alike hKc, hDc.weaken (fun _ _ _ _ => trivial), va_Nw.warmM hW hnX5_1⟩⟩ rfl rfl hl.1 rfl (lv_room (Nat.le_of_ble_eq_true rfl)) dX0_init_51 ⟨Nat.le_of_ble_eq_true rfl, Nat.le_of_ble_eq_true rfl⟩) hS (fun q _ h => hFc q h) hFc (fun u20 t H1 locs ht hvm hw hB hz1 hk1 hS => ?_)
  obtain ⟨ap17, tp18, hP1, hK1, hD1⟩ := hB
  rw [ht] at hP1
  have hK1 := va_K.moved hvm.symm hK1
  try dsimp only at hw
  obtain ⟨hP, hD⟩ := va_join (wr := [(h0, .inr (0, [.ref q1, .ref q3, .ref q10, .ref q13, .null, .null])), (q1, .inl (cA2, 512, .inl (fun _ => 0))), (q3, .inr (3, [.ref ad4, .ref ab5, .int 0])), (ad4, .inl (td6, 16, .inl (fun _ => 0))), (ab5, .inl (tb7, 16, .inl (fun _ => 0))), (q10, .inr (6, [.int 0, .int (-1)])), (q13, .inr (2, [.int 0, .int 0, .int 0]))]) (w1 := [(q16, .inr (4, [.int 128, .int 0, .ref ap17, .int 0, .int 0, .int 0, .int 0])), (ap17, .inl (tp18, 32, .inl (fun _ => 0)))]) hP hD [7] [0, 1, 2, 3, 4, 5, 6] rfl rfl (by decide) (by decide) hk1 hFc hP1 hD1
  have hK := (hK.sub (tys' := [(cA2, .int), (td6, .int), (tb7, .int)]) [0, 1, 2] rfl).app hK1
  generalize H1 = H at hP hS ⊢
  have hP : va_P (dC, dI) vwCl [(h0, .inr (0, [.ref q1, .ref q3, .ref q10, .ref q13, .null, .null])), (q1, .inl (cA2, 512, .inl (fun _ => 0))), (q3, .inr (3, [.ref ad4, .ref ab5, .int 0])), (ad4, .inl (td6, 16, .inl (fun _ => 0))), (ab5, .inl (tb7, 16, .inl (fun _ => 0))), (q10, .inr (6, [.int 0, .int (-1)])), (q13, .inr (2, [.int 0, .int 0, .int 0])), (q16, .inr (4, [.int 128, .int 0, .ref ap17, .int 0, .int 0, .int 0, .int 0])), (ap17, .inl (tp18, 32, .inl (fun _ => 0)))] H := hP
  have hD : va_D A [(h0, .inr (0, [.ref q1, .ref q3, .ref q10, .ref q13, .null, .null])), (q1, .inl (cA2, 512, .inl (fun _ => 0))), (q3, .inr (3, [.ref ad4, .ref ab5, .int 0])), (ad4, .inl (td6, 16, .inl (fun _ => 0))), (ab5, .inl (tb7, 16, .inl (fun _ => 0))), (q10, .inr (6, [.int 0, .int (-1)])), (q13, .inr (2, [.int 0, .int 0, .int 0])), (q16, .inr (4, [.int 128, .int 0, .ref ap17, .int 0, .int 0, .int 0, .int 0])), (ap17, .inl (tp18, 32, .inl (fun _ => 0)))] := hD
  have hK : va_K (dC, dI) vwCl [(cA2, .int), (td6, .int), (tb7, .int), (tp18, .int)] s := hK
  refine W.widen (k := 8) (n := 591) (Nat.le_of_ble_eq_true rfl) (Nat.le_of_ble_eq_true rfl) ?_
  refine va_putF (D := (dC, dI)) (ci := 0) (v := .ref q16) (ty := .object "UnibusMachine$Printer") (C := RX0) (T := TX0) (N := 6) hx hb hts (by decide +kernel) tyX0 tyX0_ok nmX0 hown hK hP hD hS 0 rfl rfl 4 (by decide) (hts (.fieldLink RX0 37 "UnibusMachine$Bus" "printer" "LUnibusMachine$Printer;") (by decide +kernel)) (fun _ h9 => h9) rfl hin rfl (by decide +kernel) rfl rfl (Nat.le_of_ble_eq_true rfl) dX0_init_54 (fun H locs hP hD hS => ?_)
  have hP : va_P (dC, dI) vwCl [(h0, .inr (0, [.ref q1, .ref q3, .ref q10, .ref q13, .ref q16, .null])), (q1, .inl (cA2, 512, .inl (fun _ => 0))), (q3, .inr (3, [.ref ad4, .ref ab5, .int 0])), (ad4, .inl (td6, 16, .inl (fun _ => 0))), (ab5, .inl (tb7, 16, .inl (fun _ => 0))), (q10, .inr (6, [.int 0, .int (-1)])), (q13, .inr (2, [.int 0, .int 0, .int 0])), (q16, .inr (4, [.int 128, .int 0, .ref ap17, .int 0, .int 0, .int 0, .int 0])), (ap17, .inl (tp18, 32, .inl (fun _ => 0)))] H := hP
  have hD : va_D A [(h0, .inr (0, [.ref q1, .ref q3, .ref q10, .ref q13, .ref q16, .null])), (q1, .inl (cA2, 512, .inl (fun _ => 0))), (q3, .inr (3, [.ref ad4, .ref ab5, .int 0])), (ad4, .inl (td6, 16, .inl (fun _ => 0))), (ab5, .inl (tb7, 16, .inl (fun _ => 0))), (q10, .inr (6, [.int 0, .int (-1)])), (q13, .inr (2, [.int 0, .int 0, .int 0])), (q16, .inr (4, [.int 128, .int 0, .ref ap17, .int 0, .int 0, .int 0, .int 0])), (ap17, .inl (tp18, 32, .inl (fun _ => 0)))] := hD
  refine lv_aload_n hx hb dX0_init_57 rfl (lv_at hl 0 rfl) ?_
  refine va_new (D := (dC, dI)) (ci := 1) (fs := [.int 0, .int 0, .null, .int 0, .int 0, .int 0, .int 0, .int 0, .int 0, .int 0]) (C := RX1) (T := TX1) (N := 10) hx hb hts (by decide +kernel) tyX1 tyX1_ok hown (hts (.classLink RX0 41 RX1) (by decide +kernel)) (hts (.instantiable RX1 10) (by decide +kernel)) (hts (.initialized RX1) (by decide +kernel)) hK hP hD hS hA rfl (fun j hj => by rcases (show j = 0 ∨ j = 1 ∨ j = 2 ∨ j = 3 ∨ j = 4 ∨ j = 5 ∨ j = 6 ∨ j = 7 ∨ j = 8 ∨ j = 9 by omega) with rfl | rfl | rfl | rfl | rfl | rfl | rfl | rfl | rfl | rfl <;> rfl) (Nat.le_of_ble_eq_true rfl) (Nat.le_of_ble_eq_true rfl) dX0_init_58 (fun q21 H hP hD hS => ?_)
  have hP : va_P (dC, dI) vwCl [(h0, .inr (0, [.ref q1, .ref q3, .ref q10, .ref q13, .ref q16, .null])), (q1, .inl (cA2, 512, .inl (fun _ => 0))), (q3, .inr (3, [.ref ad4, .ref ab5, .int 0])), (ad4, .inl (td6, 16, .inl (fun _ => 0))), (ab5, .inl (tb7, 16, .inl (fun _ => 0))), (q10, .inr (6, [.int 0, .int (-1)])), (q13, .inr (2, [.int 0, .int 0, .int 0])), (q16, .inr (4, [.int 128, .int 0, .ref ap17, .int 0, .int 0, .int 0, .int 0])), (ap17, .inl (tp18, 32, .inl (fun _ => 0))), (q21, .inr (1, [.int 0, .int 0, .null, .int 0, .int 0, .int 0, .int 0, .int 0, .int 0, .int 0]))] H := hP
  have hD : va_D A [(h0, .inr (0, [.ref q1, .ref q3, .ref q10, .ref q13, .ref q16, .null])), (q1, .inl (cA2, 512, .inl (fun _ => 0))), (q3, .inr (3, [.ref ad4, .ref ab5, .int 0])), (ad4, .inl (td6, 16, .inl (fun _ => 0))), (ab5, .inl (tb7, 16, .inl (fun _ => 0))), (q10, .inr (6, [.int 0, .int (-1)])), (q13, .inr (2, [.int 0, .int 0, .int 0])), (q16, .inr (4, [.int 128, .int 0, .ref ap17, .int 0, .int 0, .int 0, .int 0])), (ap17, .inl (tp18, 32, .inl (fun _ => 0))), (q21, .inr (1, [.int 0, .int 0, .null, .int 0, .int 0, .int 0, .int 0, .int 0, .int 0, .int 0]))] := hD
  refine W.widen (k := 9) (n := 601) (Nat.le_of_ble_eq_true rfl) (Nat.le_of_ble_eq_true rfl) ?_
  refine lv_dup hx hb dX0_init_61 rfl ?_
  have hPc := hP.sub (ws' := [(q21, .inr (1, [.int 0, .int 0, .null, .int 0, .int 0, .int 0, .int 0, .int 0, .int 0, .int 0]))]) [9] rfl
  have hDc := hD.sub (ws' := [(q21, .inr (1, [.int 0, .int 0, .null, .int 0, .int 0, .int 0, .int 0, .int 0, .int 0, .int 0]))]) [9] (by decide) rfl
  have hKc := hK.sub (tys' := []) [] rfl
  have hFc := va_free (wc := [(q21, .inr (1, [.int 0, .int 0, .null, .int 0, .int 0, .int 0, .int 0, .int 0, .int 0, .int 0]))]) hD hS hA [9] rfl
  refine va_callv (va_runI (As := []) (rest := [.ref q21, .ref h0]) ⟨hx, hb, hml, hown, hts⟩ (c_k_Drive l dC dI q21 H.size) (cwI 0 hts gX0_init_X1_init rfl rfl rfl (hts (.initialized RX1) (by decide +kernel)) (hts (.methodLink RX0 43 yX1_init) (by decide +kernel)) (hts (.instanceMethod yX1_init) (by decide +kernel)) rfl (by decide +kernel) ⟨Nat.le_of_ble_eq_true rfl, Nat.le_of_ble_eq_true rfl⟩) ⟨fun a U g mk q => by obtain ⟨q0, q1, qP, qK, qD, e0⟩ := q; exact ⟨q0, q1, qP, va_K.moved (u := U) (U := U.calling g mk a) (Vm.Alike.refl U.vm) qK, qD, va_Nw.same (U := U.calling g mk a) rfl rfl e0⟩, fun U hU hW => ⟨rfl, by rw [hU], by rw [hU]; exact hPc, va_K.moved hW.alike hKc, hDc.weaken (fun _ _ _ _ => trivial), va_Nw.warmM hW hnX1_1⟩⟩ rfl rfl hl.1 rfl (lv_room (Nat.le_of_ble_eq_true rfl)) dX0_init_62 ⟨Nat.le_of_ble_eq_true rfl, Nat.le_of_ble_eq_true rfl⟩) hS (fun q _ h => hFc q h) hFc (fun u25 t H1 locs ht hvm hw hB hz1 hk1 hS => ?_)
  obtain ⟨aw22, tw23, hP1, hK1, hD1⟩ := hB
  rw [ht] at hP1
  have hK1 := va_K.moved hvm.symm hK1
  try dsimp only at hw
  obtain ⟨hP, hD⟩ := va_join (wr := [(h0, .inr (0, [.ref q1, .ref q3, .ref q10, .ref q13, .ref q16, .null])), (q1, .inl (cA2, 512, .inl (fun _ => 0))), (q3, .inr (3, [.ref ad4, .ref ab5, .int 0])), (ad4, .inl (td6, 16, .inl (fun _ => 0))), (ab5, .inl (tb7, 16, .inl (fun _ => 0))), (q10, .inr (6, [.int 0, .int (-1)])), (q13, .inr (2, [.int 0, .int 0, .int 0])), (q16, .inr (4, [.int 128, .int 0, .ref ap17, .int 0, .int 0, .int 0, .int 0])), (ap17, .inl (tp18, 32, .inl (fun _ => 0)))]) (w1 := [(q21, .inr (1, [.int 128, .int 0, .ref aw22, .int 0, .int 0, .int 0, .int 0, .int 0, .int 0, .int 0])), (aw22, .inl (tw23, 128, .inl (fun _ => 0)))]) hP hD [9] [0, 1, 2, 3, 4, 5, 6, 7, 8] rfl rfl (by decide) (by decide) hk1 hFc hP1 hD1
  have hK := (hK.sub (tys' := [(cA2, .int), (td6, .int), (tb7, .int), (tp18, .int)]) [0, 1, 2, 3] rfl).app hK1
  generalize H1 = H at hP hS ⊢
  have hP : va_P (dC, dI) vwCl [(h0, .inr (0, [.ref q1, .ref q3, .ref q10, .ref q13, .ref q16, .null])), (q1, .inl (cA2, 512, .inl (fun _ => 0))), (q3, .inr (3, [.ref ad4, .ref ab5, .int 0])), (ad4, .inl (td6, 16, .inl (fun _ => 0))), (ab5, .inl (tb7, 16, .inl (fun _ => 0))), (q10, .inr (6, [.int 0, .int (-1)])), (q13, .inr (2, [.int 0, .int 0, .int 0])), (q16, .inr (4, [.int 128, .int 0, .ref ap17, .int 0, .int 0, .int 0, .int 0])), (ap17, .inl (tp18, 32, .inl (fun _ => 0))), (q21, .inr (1, [.int 128, .int 0, .ref aw22, .int 0, .int 0, .int 0, .int 0, .int 0, .int 0, .int 0])), (aw22, .inl (tw23, 128, .inl (fun _ => 0)))] H := hP
  have hD : va_D A [(h0, .inr (0, [.ref q1, .ref q3, .ref q10, .ref q13, .ref q16, .null])), (q1, .inl (cA2, 512, .inl (fun _ => 0))), (q3, .inr (3, [.ref ad4, .ref ab5, .int 0])), (ad4, .inl (td6, 16, .inl (fun _ => 0))), (ab5, .inl (tb7, 16, .inl (fun _ => 0))), (q10, .inr (6, [.int 0, .int (-1)])), (q13, .inr (2, [.int 0, .int 0, .int 0])), (q16, .inr (4, [.int 128, .int 0, .ref ap17, .int 0, .int 0, .int 0, .int 0])), (ap17, .inl (tp18, 32, .inl (fun _ => 0))), (q21, .inr (1, [.int 128, .int 0, .ref aw22, .int 0, .int 0, .int 0, .int 0, .int 0, .int 0, .int 0])), (aw22, .inl (tw23, 128, .inl (fun _ => 0)))] := hD
  have hK : va_K (dC, dI) vwCl [(cA2, .int), (td6, .int), (tb7, .int), (tp18, .int), (tw23, .int)] s := hK
  refine W.widen (k := 10) (n := 729) (Nat.le_of_ble_eq_true rfl) (Nat.le_of_ble_eq_true rfl) ?_
  refine va_putF (D := (dC, dI)) (ci := 0) (v := .ref q21) (ty := .object "UnibusMachine$Drive") (C := RX0) (T := TX0) (N := 6) hx hb hts (by decide +kernel) tyX0 tyX0_ok nmX0 hown hK hP hD hS 0 rfl rfl 5 (by decide) (hts (.fieldLink RX0 44 "UnibusMachine$Bus" "drive" "LUnibusMachine$Drive;") (by decide +kernel)) (fun _ h9 => h9) rfl hin rfl (by decide +kernel) rfl rfl (Nat.le_of_ble_eq_true rfl) dX0_init_65 (fun H locs hP hD hS => ?_)
  have hP : va_P (dC, dI) vwCl [(h0, .inr (0, [.ref q1, .ref q3, .ref q10, .ref q13, .ref q16, .ref q21])), (q1, .inl (cA2, 512, .inl (fun _ => 0))), (q3, .inr (3, [.ref ad4, .ref ab5, .int 0])), (ad4, .inl (td6, 16, .inl (fun _ => 0))), (ab5, .inl (tb7, 16, .inl (fun _ => 0))), (q10, .inr (6, [.int 0, .int (-1)])), (q13, .inr (2, [.int 0, .int 0, .int 0])), (q16, .inr (4, [.int 128, .int 0, .ref ap17, .int 0, .int 0, .int 0, .int 0])), (ap17, .inl (tp18, 32, .inl (fun _ => 0))), (q21, .inr (1, [.int 128, .int 0, .ref aw22, .int 0, .int 0, .int 0, .int 0, .int 0, .int 0, .int 0])), (aw22, .inl (tw23, 128, .inl (fun _ => 0)))] H := hP
  have hD : va_D A [(h0, .inr (0, [.ref q1, .ref q3, .ref q10, .ref q13, .ref q16, .ref q21])), (q1, .inl (cA2, 512, .inl (fun _ => 0))), (q3, .inr (3, [.ref ad4, .ref ab5, .int 0])), (ad4, .inl (td6, 16, .inl (fun _ => 0))), (ab5, .inl (tb7, 16, .inl (fun _ => 0))), (q10, .inr (6, [.int 0, .int (-1)])), (q13, .inr (2, [.int 0, .int 0, .int 0])), (q16, .inr (4, [.int 128, .int 0, .ref ap17, .int 0, .int 0, .int 0, .int 0])), (ap17, .inl (tp18, 32, .inl (fun _ => 0))), (q21, .inr (1, [.int 128, .int 0, .ref aw22, .int 0, .int 0, .int 0, .int 0, .int 0, .int 0, .int 0])), (aw22, .inl (tw23, 128, .inl (fun _ => 0)))] := hD
  have hP9 := hP.sub (ws' := [(h0, .inr (0, [.ref q1, .ref q3, .ref q10, .ref q13, .ref q16, .ref q21])), (q1, .inl (cA2, 512, .inl (fun _ => 0))), (q3, .inr (3, [.ref ad4, .ref ab5, .int 0])), (ad4, .inl (td6, 16, .inl (fun _ => 0))), (ab5, .inl (tb7, 16, .inl (fun _ => 0))), (q10, .inr (6, [.int 0, .int (-1)])), (q13, .inr (2, [.int 0, .int 0, .int 0])), (q16, .inr (4, [.int 128, .int 0, .ref ap17, .int 0, .int 0, .int 0, .int 0])), (ap17, .inl (tp18, 32, .inl (fun _ => 0))), (q21, .inr (1, [.int 128, .int 0, .ref aw22, .int 0, .int 0, .int 0, .int 0, .int 0, .int 0, .int 0])), (aw22, .inl (tw23, 128, .inl (fun _ => 0)))]) [0, 1, 2, 3, 4, 5, 6, 7, 8, 9, 10] rfl
  have hD9 := hD.sub (ws' := [(h0, .inr (0, [.ref q1, .ref q3, .ref q10, .ref q13, .ref q16, .ref q21])), (q1, .inl (cA2, 512, .inl (fun _ => 0))), (q3, .inr (3, [.ref ad4, .ref ab5, .int 0])), (ad4, .inl (td6, 16, .inl (fun _ => 0))), (ab5, .inl (tb7, 16, .inl (fun _ => 0))), (q10, .inr (6, [.int 0, .int (-1)])), (q13, .inr (2, [.int 0, .int 0, .int 0])), (q16, .inr (4, [.int 128, .int 0, .ref ap17, .int 0, .int 0, .int 0, .int 0])), (ap17, .inl (tp18, 32, .inl (fun _ => 0))), (q21, .inr (1, [.int 128, .int 0, .ref aw22, .int 0, .int 0, .int 0, .int 0, .int 0, .int 0, .int 0])), (aw22, .inl (tw23, 128, .inl (fun _ => 0)))]) [0, 1, 2, 3, 4, 5, 6, 7, 8, 9, 10] (by decide) rfl
  have hK9 := hK.sub (tys' := [(cA2, .int), (td6, .int), (tb7, .int), (tp18, .int), (tw23, .int)]) [0, 1, 2, 3, 4] rfl
  exact W.vret hx hb hr (fun t ht hW => ⟨⟨(), rfl, trivial, q1, q3, q10, q13, q16, q21, ad4, ab5, ap17, aw22, cA2, td6, tb7, tp18, tw23, by rw [ht]; exact hP9, va_K.moved hW.alike hK9, hD9⟩, hS.F ht⟩) hS.2.2 dX0_init_68
set_option maxHeartbeats 4000000 in
set_option maxRecDepth 100000 in
theorem c_k_Processor (l : Launch) (dC : Nat → ClassId) (dI : Nat → Nat → Nat) (h0 : Nat) (oB : Nat) (am : Nat) (oM : Nat) (oS : Nat) (oK : Nat) (oL : Nat) (oD : Nat) (sz : Nat) : Met l yX6_init wsX6_init ({ frames := 1, cells := 1, slots := 8, locals := 12 } : Room) (va_Pc [.ref h0, .ref oB] (fun U => U.heap.size = sz ∧ va_P (dC, dI) vwCl [(h0, .inr (5, [.null, .null, .null, .int 0, .int 0, .int 0, .int 0, .int 0, .int 0])), (oB, .inr (0, [.ref am, .ref oM, .ref oS, .ref oK, .ref oL, .ref oD]))] U.heap ∧ va_K (dC, dI) vwCl [] U ∧ va_D (fun _ => True) [(h0, .inr (5, [.null, .null, .null, .int 0, .int 0, .int 0, .int 0, .int 0, .int 0])), (oB, .inr (0, [.ref am, .ref oM, .ref oS, .ref oK, .ref oL, .ref oD]))])) (va_Qv (fun (u : Unit) => True) (fun (u : Unit) (t : State) => ∃ (ar : Nat) (tr : ClassId), va_P (dC, dI) vwCl [(h0, .inr (5, [.ref ar, .ref oB, .ref oS, .int 0, .int 2, .int 0, .int 0, .int 0, .int 0])), (oB, .inr (0, [.ref am, .ref oM, .ref oS, .ref oK, .ref oL, .ref oD])), (ar, .inl (tr, 8, .inl (fun _ => 0)))] t.heap ∧ va_K (dC, dI) vwCl [(tr, .int)] t ∧ va_D (va_A [(h0, .inr (5, [.null, .null, .null, .int 0, .int 0, .int 0, .int 0, .int 0, .int 0])), (oB, .inr (0, [.ref am, .ref oM, .ref oS, .ref oK, .ref oL, .ref oD]))] sz) [(h0, .inr (5, [.ref ar, .ref oB, .ref oS, .int 0, .int 2, .int 0, .int 0, .int 0, .int 0])), (oB, .inr (0, [.ref am, .ref oM, .ref oS, .ref oK, .ref oL, .ref oD])), (ar, .inl (tr, 8, .inl (fun _ => 0)))]) (va_A [(h0, .inr (5, [.null, .null, .null, .int 0, .int 0, .int 0, .int 0, .int 0, .int 0])), (oB, .inr (0, [.ref am, .ref oM, .ref oS, .ref oK, .ref oL, .ref oD]))] sz)) 1 8 (va_A [(h0, .inr (5, [.null, .null, .null, .int 0, .int 0, .int 0, .int 0, .int 0, .int 0])), (oB, .inr (0, [.ref am, .ref oM, .ref oS, .ref oK, .ref oL, .ref oD]))] sz) := by
  refine Met.ofW (cc := cX6_init) (maxL := 2) (ret := none) (by decide) rfl ?_
  intro p e s m args below meth c s₁ B hml hv
  obtain ⟨rfl, hsz, hP, hK, hD0⟩ := hv
  have hx := B.exec
  have hb := B.bytes
  have hr := B.returns
  have hts := atoms_spec (ws := wsX6_init) B.pre
  have hown : s.vm.findClass RX6 = some m.cls := findClass_of_methodNamed B.named
  have hlocks := B.notSynchronized
  have hin : meth.name = "<init>" := (name_of_methodNamed B.named B.method).1
  have hD := hD0.self (sz := sz)
  generalize hAe : va_A [(h0, .inr (5, [.null, .null, .null, .int 0, .int 0, .int 0, .int 0, .int 0, .int 0])), (oB, .inr (0, [.ref am, .ref oM, .ref oS, .ref oK, .ref oL, .ref oD]))] sz = A at hD ⊢
  have hA : ∀ q : Nat, s.heap.size ≤ q → A q := fun q h => by rw [← hAe]; exact Or.inr (by omega)
  have hS0 : ∀ G : Heap, s.heap = G → va_S A s.heap G [] := fun G h => by subst h; exact va_S.rf
  generalize hHe : s.heap = H at hP ⊢
  have hS := hS0 H hHe
  have hP : va_P (dC, dI) vwCl [(h0, .inr (5, [.null, .null, .null, .int 0, .int 0, .int 0, .int 0, .int 0, .int 0])), (oB, .inr (0, [.ref am, .ref oM, .ref oS, .ref oK, .ref oL, .ref oD]))] H := hP
  have hD : va_D A [(h0, .inr (5, [.null, .null, .null, .int 0, .int 0, .int 0, .int 0, .int 0, .int 0])), (oB, .inr (0, [.ref am, .ref oM, .ref oS, .ref oK, .ref oL, .ref oD]))] := hD
  have hK : va_K (dC, dI) vwCl [] s := hK
  have hl := lv_entry ([.ref h0, .ref oB]) (n := 2) (Nat.le_of_ble_eq_true rfl)
  rw [lg_entry_eq]
  generalize (lg_sl ([.ref h0, .ref oB]) ++ List.replicate (2 - (lg_sl ([.ref h0, .ref oB])).length) Slot.unset).toArray = ls at hl ⊢
  have hl : lv_has ls 2 [(0, .ref h0), (1, .ref oB)] := hl
  refine lv_aload_n hx hb dX6_init_0 rfl (lv_at hl 0 rfl) ?_
  refine W.objInit hx hb hown (hts (.methodLink RX6 1 objectInit) (by decide +kernel)) (hts (.instanceMethod objectInit) (by decide +kernel)) (hts _ (List.mem_of_getElem? (i := 3) rfl)) rfl (by rw [hml]; exact hl.1) rfl dX6_init_1 (Nat.le_of_ble_eq_true rfl) (Nat.le_of_ble_eq_true rfl) ?_
  refine W.eq (g2 := F0 m 4 ls []) rfl ?_
  refine lv_aload_n hx hb dX6_init_4 rfl (lv_at hl 0 rfl) ?_
  refine lv_bipush (v := 8) hx hb dX6_init_5 (by decide) ?_
  refine va_newa (atype := .int) (ty := .int) (a0 := (8, .inl (fun _ => 0))) hx hb (hts (.arrayClass .int) (by decide +kernel)) rfl hK hP hD hS hA (fun _ => rfl) (by decide) (by decide) (Nat.le_of_ble_eq_true rfl) (Nat.le_of_ble_eq_true rfl) (Nat.le_of_ble_eq_true rfl) dX6_init_7 (fun q1 cA2 H hK hP hD hS => ?_)
  have hP : va_P (dC, dI) vwCl [(h0, .inr (5, [.null, .null, .null, .int 0, .int 0, .int 0, .int 0, .int 0, .int 0])), (oB, .inr (0, [.ref am, .ref oM, .ref oS, .ref oK, .ref oL, .ref oD])), (q1, .inl (cA2, 8, .inl (fun _ => 0)))] H := hP
  have hD : va_D A [(h0, .inr (5, [.null, .null, .null, .int 0, .int 0, .int 0, .int 0, .int 0, .int 0])), (oB, .inr (0, [.ref am, .ref oM, .ref oS, .ref oK, .ref oL, .ref oD])), (q1, .inl (cA2, 8, .inl (fun _ => 0)))] := hD
  have hK : va_K (dC, dI) vwCl [(cA2, .int)] s := hK
  refine W.widen (k := 1) (n := 8) (Nat.le_of_ble_eq_true rfl) (Nat.le_of_ble_eq_true rfl) ?_
  refine va_putF (D := (dC, dI)) (ci := 5) (v := .ref q1) (ty := .array .int) (C := RX6) (T := TX6) (N := 9) hx hb hts (by decide +kernel) tyX6 tyX6_ok nmX6 hown hK hP hD hS 0 rfl rfl 0 (by decide) (hts (.fieldLink RX6 7 "UnibusMachine$Processor" "registers" "[I") (by decide +kernel)) (fun _ h9 => h9) rfl hin rfl (by decide +kernel) rfl rfl (Nat.le_of_ble_eq_true rfl) dX6_init_9 (fun H locs hP hD hS => ?_)
  have hP : va_P (dC, dI) vwCl [(h0, .inr (5, [.ref q1, .null, .null, .int 0, .int 0, .int 0, .int 0, .int 0, .int 0])), (oB, .inr (0, [.ref am, .ref oM, .ref oS, .ref oK, .ref oL, .ref oD])), (q1, .inl (cA2, 8, .inl (fun _ => 0)))] H := hP
  have hD : va_D A [(h0, .inr (5, [.ref q1, .null, .null, .int 0, .int 0, .int 0, .int 0, .int 0, .int 0])), (oB, .inr (0, [.ref am, .ref oM, .ref oS, .ref oK, .ref oL, .ref oD])), (q1, .inl (cA2, 8, .inl (fun _ => 0)))] := hD
  refine lv_aload_n hx hb dX6_init_12 rfl (lv_at hl 0 rfl) ?_
  refine lv_iconst (v := 0) hx hb dX6_init_13 (by decide) ?_
  refine va_put (D := (dC, dI)) (ci := 5) (v := .int 0) (ty := .int) (C := RX6) (T := TX6) (N := 9) hx hb hts (by decide +kernel) tyX6 tyX6_ok nmX6 hown hK hP hD hS 0 rfl rfl 3 (by decide) (hts (.fieldLink RX6 13 "UnibusMachine$Processor" "otherStack" "I") (by decide +kernel)) (fun _ h9 => h9) rfl (by decide +kernel) rfl rfl (Nat.le_of_ble_eq_true rfl) dX6_init_14 (fun H locs hP hD hS => ?_)
  have hP : va_P (dC, dI) vwCl [(h0, .inr (5, [.ref q1, .null, .null, .int 0, .int 0, .int 0, .int 0, .int 0, .int 0])), (oB, .inr (0, [.ref am, .ref oM, .ref oS, .ref oK, .ref oL, .ref oD])), (q1, .inl (cA2, 8, .inl (fun _ => 0)))] H := hP
  have hD : va_D A [(h0, .inr (5, [.ref q1, .null, .null, .int 0, .int 0, .int 0, .int 0, .int 0, .int 0])), (oB, .inr (0, [.ref am, .ref oM, .ref oS, .ref oK, .ref oL, .ref oD])), (q1, .inl (cA2, 8, .inl (fun _ => 0)))] := hD
  refine lv_aload_n hx hb dX6_init_17 rfl (lv_at hl 0 rfl) ?_
  refine lv_iconst (v := 2) hx hb dX6_init_18 (by decide) ?_
  refine va_put (D := (dC, dI)) (ci := 5) (v := .int 2) (ty := .int) (C := RX6) (T := TX6) (N := 9) hx hb hts (by decide +kernel) tyX6 tyX6_ok nmX6 hown hK hP hD hS 0 rfl rfl 4 (by decide) (hts (.fieldLink RX6 17 "UnibusMachine$Processor" "halted" "I") (by decide +kernel)) (fun _ h9 => h9) rfl (by decide +kernel) rfl rfl (Nat.le_of_ble_eq_true rfl) dX6_init_19 (fun H locs hP hD hS => ?_)
  have hP : va_P (dC, dI) vwCl [(h0, .inr (5, [.ref q1, .null, .null, .int 0, .int 2, .int 0, .int 0, .int 0, .int 0])), (oB, .inr (0, [.ref am, .ref oM, .ref oS, .ref oK, .ref oL, .ref oD])), (q1, .inl (cA2, 8, .inl (fun _ => 0)))] H := hP
  have hD : va_D A [(h0, .inr (5, [.ref q1, .null, .null, .int 0, .int 2, .int 0, .int 0, .int 0, .int 0])), (oB, .inr (0, [.ref am, .ref oM, .ref oS, .ref oK, .ref oL, .ref oD])), (q1, .inl (cA2, 8, .inl (fun _ => 0)))] := hD
  refine lv_aload_n hx hb dX6_init_22 rfl (lv_at hl 0 rfl) ?_
  refine lv_iconst (v := 0) hx hb dX6_init_23 (by decide) ?_
  refine va_put (D := (dC, dI)) (ci := 5) (v := .int 0) (ty := .boolean) (C := RX6) (T := TX6) (N := 9) hx hb hts (by decide +kernel) tyX6 tyX6_ok nmX6 hown hK hP hD hS 0 rfl rfl 5 (by decide) (hts (.fieldLink RX6 20 "UnibusMachine$Processor" "waiting" "Z") (by decide +kernel)) (fun _ h9 => h9) rfl (by decide +kernel) (by decide) rfl (Nat.le_of_ble_eq_true rfl) dX6_init_24 (fun H locs hP hD hS => ?_)
  have hP : va_P (dC, dI) vwCl [(h0, .inr (5, [.ref q1, .null, .null, .int 0, .int 2, .int 0, .int 0, .int 0, .int 0])), (oB, .inr (0, [.ref am, .ref oM, .ref oS, .ref oK, .ref oL, .ref oD])), (q1, .inl (cA2, 8, .inl (fun _ => 0)))] H := hP
  have hD : va_D A [(h0, .inr (5, [.ref q1, .null, .null, .int 0, .int 2, .int 0, .int 0, .int 0, .int 0])), (oB, .inr (0, [.ref am, .ref oM, .ref oS, .ref oK, .ref oL, .ref oD])), (q1, .inl (cA2, 8, .inl (fun _ => 0)))] := hD
  refine lv_aload_n hx hb dX6_init_27 rfl (lv_at hl 0 rfl) ?_
  refine lv_iconst (v := 0) hx hb dX6_init_28 (by decide) ?_
  refine va_put (D := (dC, dI)) (ci := 5) (v := .int 0) (ty := .int) (C := RX6) (T := TX6) (N := 9) hx hb hts (by decide +kernel) tyX6 tyX6_ok nmX6 hown hK hP hD hS 0 rfl rfl 6 (by decide) (hts (.fieldLink RX6 24 "UnibusMachine$Processor" "vector" "I") (by decide +kernel)) (fun _ h9 => h9) rfl (by decide +kernel) rfl rfl (Nat.le_of_ble_eq_true rfl) dX6_init_29 (fun H locs hP hD hS => ?_)
  have hP : va_P (dC, dI) vwCl [(h0, .inr (5, [.ref q1, .null, .null, .int 0, .int 2, .int 0, .int 0, .int 0, .int 0])), (oB, .inr (0, [.ref am, .ref oM, .ref oS, .ref oK, .ref oL, .ref oD])), (q1, .inl (cA2, 8, .inl (fun _ => 0)))] H := hP
  have hD : va_D A [(h0, .inr (5, [.ref q1, .null, .null, .int 0, .int 2, .int 0, .int 0, .int 0, .int 0])), (oB, .inr (0, [.ref am, .ref oM, .ref oS, .ref oK, .ref oL, .ref oD])), (q1, .inl (cA2, 8, .inl (fun _ => 0)))] := hD
  refine lv_aload_n hx hb dX6_init_32 rfl (lv_at hl 0 rfl) ?_
  refine lv_iconst (v := 0) hx hb dX6_init_33 (by decide) ?_
  refine va_put (D := (dC, dI)) (ci := 5) (v := .int 0) (ty := .int) (C := RX6) (T := TX6) (N := 9) hx hb hts (by decide +kernel) tyX6 tyX6_ok nmX6 hown hK hP hD hS 0 rfl rfl 7 (by decide) (hts (.fieldLink RX6 27 "UnibusMachine$Processor" "named" "I") (by decide +kernel)) (fun _ h9 => h9) rfl (by decide +kernel) rfl rfl (Nat.le_of_ble_eq_true rfl) dX6_init_34 (fun H locs hP hD hS => ?_)
  have hP : va_P (dC, dI) vwCl [(h0, .inr (5, [.ref q1, .null, .null, .int 0, .int 2, .int 0, .int 0, .int 0, .int 0])), (oB, .inr (0, [.ref am, .ref oM, .ref oS, .ref oK, .ref oL, .ref oD])), (q1, .inl (cA2, 8, .inl (fun _ => 0)))] H := hP
  have hD : va_D A [(h0, .inr (5, [.ref q1, .null, .null, .int 0, .int 2, .int 0, .int 0, .int 0, .int 0])), (oB, .inr (0, [.ref am, .ref oM, .ref oS, .ref oK, .ref oL, .ref oD])), (q1, .inl (cA2, 8, .inl (fun _ => 0)))] := hD
  refine lv_aload_n hx hb dX6_init_37 rfl (lv_at hl 0 rfl) ?_
  refine lv_iconst (v := 0) hx hb dX6_init_38 (by decide) ?_
  refine va_put (D := (dC, dI)) (ci := 5) (v := .int 0) (ty := .int) (C := RX6) (T := TX6) (N := 9) hx hb hts (by decide +kernel) tyX6 tyX6_ok nmX6 hown hK hP hD hS 0 rfl rfl 8 (by decide) (hts (.fieldLink RX6 30 "UnibusMachine$Processor" "flags" "I") (by decide +kernel)) (fun _ h9 => h9) rfl (by decide +kernel) rfl rfl (Nat.le_of_ble_eq_true rfl) dX6_init_39 (fun H locs hP hD hS => ?_)
  have hP : va_P (dC, dI) vwCl [(h0, .inr (5, [.ref q1, .null, .null, .int 0, .int 2, .int 0, .int 0, .int 0, .int 0])), (oB, .inr (0, [.ref am, .ref oM, .ref oS, .ref oK, .ref oL, .ref oD])), (q1, .inl (cA2, 8, .inl (fun _ => 0)))] H := hP
  have hD : va_D A [(h0, .inr (5, [.ref q1, .null, .null, .int 0, .int 2, .int 0, .int 0, .int 0, .int 0])), (oB, .inr (0, [.ref am, .ref oM, .ref oS, .ref oK, .ref oL, .ref oD])), (q1, .inl (cA2, 8, .inl (fun _ => 0)))] := hD
  refine lv_aload_n hx hb dX6_init_42 rfl (lv_at hl 0 rfl) ?_
  refine lv_aload_n hx hb dX6_init_43 rfl (lv_at hl 1 rfl) ?_
  refine va_putF (D := (dC, dI)) (ci := 5) (v := .ref oB) (ty := .object "UnibusMachine$Bus") (C := RX6) (T := TX6) (N := 9) hx hb hts (by decide +kernel) tyX6 tyX6_ok nmX6 hown hK hP hD hS 0 rfl rfl 1 (by decide) (hts (.fieldLink RX6 33 "UnibusMachine$Processor" "bus" "LUnibusMachine$Bus;") (by decide +kernel)) (fun _ h9 => h9) rfl hin rfl (by decide +kernel) rfl rfl (Nat.le_of_ble_eq_true rfl) dX6_init_44 (fun H locs hP hD hS => ?_)
  have hP : va_P (dC, dI) vwCl [(h0, .inr (5, [.ref q1, .ref oB, .null, .int 0, .int 2, .int 0, .int 0, .int 0, .int 0])), (oB, .inr (0, [.ref am, .ref oM, .ref oS, .ref oK, .ref oL, .ref oD])), (q1, .inl (cA2, 8, .inl (fun _ => 0)))] H := hP
  have hD : va_D A [(h0, .inr (5, [.ref q1, .ref oB, .null, .int 0, .int 2, .int 0, .int 0, .int 0, .int 0])), (oB, .inr (0, [.ref am, .ref oM, .ref oS, .ref oK, .ref oL, .ref oD])), (q1, .inl (cA2, 8, .inl (fun _ => 0)))] := hD
  refine lv_aload_n hx hb dX6_init_47 rfl (lv_at hl 0 rfl) ?_
  refine lv_aload_n hx hb dX6_init_48 rfl (lv_at hl 1 rfl) ?_
  refine va_get (D := (dC, dI)) (ci := 0) (v := .ref oS) (C := RX0) (T := TX0) (N := 6) hx hb hts (by decide +kernel) hown hK hP 1 rfl rfl 2 (by decide) (hts (.fieldLink RX6 37 "UnibusMachine$Bus" "status" "LUnibusMachine$Status;") (by decide +kernel)) (fun _ h9 => h9) rfl dX6_init_49 ?_
  refine va_putF (D := (dC, dI)) (ci := 5) (v := .ref oS) (ty := .object "UnibusMachine$Status") (C := RX6) (T := TX6) (N := 9) hx hb hts (by decide +kernel) tyX6 tyX6_ok nmX6 hown hK hP hD hS 0 rfl rfl 2 (by decide) (hts (.fieldLink RX6 43 "UnibusMachine$Processor" "status" "LUnibusMachine$Status;") (by decide +kernel)) (fun _ h9 => h9) rfl hin rfl (by decide +kernel) rfl rfl (Nat.le_of_ble_eq_true rfl) dX6_init_52 (fun H locs hP hD hS => ?_)
  have hP : va_P (dC, dI) vwCl [(h0, .inr (5, [.ref q1, .ref oB, .ref oS, .int 0, .int 2, .int 0, .int 0, .int 0, .int 0])), (oB, .inr (0, [.ref am, .ref oM, .ref oS, .ref oK, .ref oL, .ref oD])), (q1, .inl (cA2, 8, .inl (fun _ => 0)))] H := hP
  have hD : va_D A [(h0, .inr (5, [.ref q1, .ref oB, .ref oS, .int 0, .int 2, .int 0, .int 0, .int 0, .int 0])), (oB, .inr (0, [.ref am, .ref oM, .ref oS, .ref oK, .ref oL, .ref oD])), (q1, .inl (cA2, 8, .inl (fun _ => 0)))] := hD
  have hP9 := hP.sub (ws' := [(h0, .inr (5, [.ref q1, .ref oB, .ref oS, .int 0, .int 2, .int 0, .int 0, .int 0, .int 0])), (oB, .inr (0, [.ref am, .ref oM, .ref oS, .ref oK, .ref oL, .ref oD])), (q1, .inl (cA2, 8, .inl (fun _ => 0)))]) [0, 1, 2] rfl
  have hD9 := hD.sub (ws' := [(h0, .inr (5, [.ref q1, .ref oB, .ref oS, .int 0, .int 2, .int 0, .int 0, .int 0, .int 0])), (oB, .inr (0, [.ref am, .ref oM, .ref oS, .ref oK, .ref oL, .ref oD])), (q1, .inl (cA2, 8, .inl (fun _ => 0)))]) [0, 1, 2] (by decide) rfl
  have hK9 := hK.sub (tys' := [(cA2, .int)]) [0] rfl
  exact W.vret hx hb hr (fun t ht hW => ⟨⟨(), rfl, trivial, q1, cA2, by rw [ht]; exact hP9, va_K.moved hW.alike hK9, hD9⟩, hS.F ht⟩) hS.2.2 dX6_init_55
set_option maxHeartbeats 4000000 in
set_option maxRecDepth 100000 in
theorem c_k_UM (l : Launch) (dC : Nat → ClassId) (dI : Nat → Nat → Nat) (h0 : Nat) (sz : Nat) : Met l yX8_init wsX8_init ({ frames := 4, cells := 13, slots := 752, locals := 72 } : Room) (va_Pc [.ref h0] (fun U => U.heap.size = sz ∧ va_P (dC, dI) vwCl [(h0, .inr (7, [.null, .null]))] U.heap ∧ va_K (dC, dI) vwCl [] U ∧ va_D (fun _ => True) [(h0, .inr (7, [.null, .null]))] ∧ va_Nw (.methodLinkNest RX8 9 yX0_init "UnibusMachine") U ∧ va_Nw (.methodLinkNest RX0 15 yX4_init "UnibusMachine") U ∧ va_Nw (.methodLinkNest RX0 22 yX7_init "UnibusMachine") U ∧ va_Nw (.methodLinkNest RX0 29 yX2_init "UnibusMachine") U ∧ va_Nw (.methodLinkNest RX2 1 yX3_init "UnibusMachine") U ∧ va_Nw (.methodLinkNest RX5 1 yX3_init "UnibusMachine") U ∧ va_Nw (.methodLinkNest RX1 1 yX3_init "UnibusMachine") U)) (va_Qv (fun (u : Unit) => True) (fun (u : Unit) (t : State) => ∃ (oB : Nat) (oP : Nat) (am : Nat) (oM : Nat) (oS : Nat) (oK : Nat) (oL : Nat) (oD : Nat) (ad : Nat) (ab : Nat) (ap : Nat) (aw : Nat) (tm : ClassId) (td : ClassId) (tb : ClassId) (tp : ClassId) (tw : ClassId) (ar : Nat) (tr : ClassId), va_P (dC, dI) vwCl [(h0, .inr (7, [.ref oB, .ref oP])), (oB, .inr (0, [.ref am, .ref oM, .ref oS, .ref oK, .ref oL, .ref oD])), (am, .inl (tm, 512, .inl (fun _ => 0))), (oM, .inr (3, [.ref ad, .ref ab, .int 0])), (ad, .inl (td, 16, .inl (fun _ => 0))), (ab, .inl (tb, 16, .inl (fun _ => 0))), (oS, .inr (6, [.int 0, .int (-1)])), (oK, .inr (2, [.int 0, .int 0, .int 0])), (oL, .inr (4, [.int 128, .int 0, .ref ap, .int 0, .int 0, .int 0, .int 0])), (ap, .inl (tp, 32, .inl (fun _ => 0))), (oD, .inr (1, [.int 128, .int 0, .ref aw, .int 0, .int 0, .int 0, .int 0, .int 0, .int 0, .int 0])), (aw, .inl (tw, 128, .inl (fun _ => 0))), (oP, .inr (5, [.ref ar, .ref oB, .ref oS, .int 0, .int 2, .int 0, .int 0, .int 0, .int 0])), (ar, .inl (tr, 8, .inl (fun _ => 0)))] t.heap ∧ va_K (dC, dI) vwCl [(tm, .int), (td, .int), (tb, .int), (tp, .int), (tw, .int), (tr, .int)] t ∧ va_D (va_A [(h0, .inr (7, [.null, .null]))] sz) [(h0, .inr (7, [.ref oB, .ref oP])), (oB, .inr (0, [.ref am, .ref oM, .ref oS, .ref oK, .ref oL, .ref oD])), (am, .inl (tm, 512, .inl (fun _ => 0))), (oM, .inr (3, [.ref ad, .ref ab, .int 0])), (ad, .inl (td, 16, .inl (fun _ => 0))), (ab, .inl (tb, 16, .inl (fun _ => 0))), (oS, .inr (6, [.int 0, .int (-1)])), (oK, .inr (2, [.int 0, .int 0, .int 0])), (oL, .inr (4, [.int 128, .int 0, .ref ap, .int 0, .int 0, .int 0, .int 0])), (ap, .inl (tp, 32, .inl (fun _ => 0))), (oD, .inr (1, [.int 128, .int 0, .ref aw, .int 0, .int 0, .int 0, .int 0, .int 0, .int 0, .int 0])), (aw, .inl (tw, 128, .inl (fun _ => 0))), (oP, .inr (5, [.ref ar, .ref oB, .ref oS, .int 0, .int 2, .int 0, .int 0, .int 0, .int 0])), (ar, .inl (tr, 8, .inl (fun _ => 0)))]) (va_A [(h0, .inr (7, [.null, .null]))] sz)) 13 752 (va_A [(h0, .inr (7, [.null, .null]))] sz) := by
  refine Met.ofW (cc := cX8_init) (maxL := 1) (ret := none) (by decide) rfl ?_
  intro p e s m args below meth c s₁ B hml hv
  obtain ⟨rfl, hsz, hP, hK, hD0, hnX8_9, hnX0_15, hnX0_22, hnX0_29, hnX2_1, hnX5_1, hnX1_1⟩ := hv
  have hx := B.exec
  have hb := B.bytes
  have hr := B.returns
  have hts := atoms_spec (ws := wsX8_init) B.pre
  have hown : s.vm.findClass RX8 = some m.cls := findClass_of_methodNamed B.named
  have hlocks := B.notSynchronized
  have hin : meth.name = "<init>" := (name_of_methodNamed B.named B.method).1
  have hD := hD0.self (sz := sz)
  generalize hAe : va_A [(h0, .inr (7, [.null, .null]))] sz = A at hD ⊢
  have hA : ∀ q : Nat, s.heap.size ≤ q → A q := fun q h => by rw [← hAe]; exact Or.inr (by omega)
  have hS0 : ∀ G : Heap, s.heap = G → va_S A s.heap G [] := fun G h => by subst h; exact va_S.rf
  generalize hHe : s.heap = H at hP ⊢
  have hS := hS0 H hHe
  have hP : va_P (dC, dI) vwCl [(h0, .inr (7, [.null, .null]))] H := hP
  have hD : va_D A [(h0, .inr (7, [.null, .null]))] := hD
  have hK : va_K (dC, dI) vwCl [] s := hK
  have hl := lv_entry ([.ref h0]) (n := 1) (Nat.le_of_ble_eq_true rfl)
  rw [lg_entry_eq]
  generalize (lg_sl ([.ref h0]) ++ List.replicate (1 - (lg_sl ([.ref h0])).length) Slot.unset).toArray = ls at hl ⊢
  have hl : lv_has ls 1 [(0, .ref h0)] := hl
  refine lv_aload_n hx hb dX8_init_0 rfl (lv_at hl 0 rfl) ?_
  refine W.objInit hx hb hown (hts (.methodLink RX8 1 objectInit) (by decide +kernel)) (hts (.instanceMethod objectInit) (by decide +kernel)) (hts _ (List.mem_of_getElem? (i := 3) rfl)) rfl (by rw [hml]; exact hl.1) rfl dX8_init_1 (Nat.le_of_ble_eq_true rfl) (Nat.le_of_ble_eq_true rfl) ?_
  refine W.eq (g2 := F0 m 4 ls []) rfl ?_
  refine lv_aload_n hx hb dX8_init_4 rfl (lv_at hl 0 rfl) ?_
  refine va_new (D := (dC, dI)) (ci := 0) (fs := [.null, .null, .null, .null, .null, .null]) (C := RX0) (T := TX0) (N := 6) hx hb hts (by decide +kernel) tyX0 tyX0_ok hown (hts (.classLink RX8 7 RX0) (by decide +kernel)) (hts (.instantiable RX0 6) (by decide +kernel)) (hts (.initialized RX0) (by decide +kernel)) hK hP hD hS hA rfl (fun j hj => by rcases (show j = 0 ∨ j = 1 ∨ j = 2 ∨ j = 3 ∨ j = 4 ∨ j = 5 by omega) with rfl | rfl | rfl | rfl | rfl | rfl <;> rfl) (Nat.le_of_ble_eq_true rfl) (Nat.le_of_ble_eq_true rfl) dX8_init_5 (fun q1 H hP hD hS => ?_)
  have hP : va_P (dC, dI) vwCl [(h0, .inr (7, [.null, .null])), (q1, .inr (0, [.null, .null, .null, .null, .null, .null]))] H := hP
  have hD : va_D A [(h0, .inr (7, [.null, .null])), (q1, .inr (0, [.null, .null, .null, .null, .null, .null]))] := hD
  refine W.widen (k := 1) (n := 6) (Nat.le_of_ble_eq_true rfl) (Nat.le_of_ble_eq_true rfl) ?_
  refine lv_dup hx hb dX8_init_8 rfl ?_
  have hPc := hP.sub (ws' := [(q1, .inr (0, [.null, .null, .null, .null, .null, .null]))]) [1] rfl
  have hDc := hD.sub (ws' := [(q1, .inr (0, [.null, .null, .null, .null, .null, .null]))]) [1] (by decide) rfl
  have hKc := hK.sub (tys' := []) [] rfl
  have hFc := va_free (wc := [(q1, .inr (0, [.null, .null, .null, .null, .null, .null]))]) hD hS hA [1] rfl
  refine va_callv (va_runIN (As := []) (rest := [.ref q1, .ref h0]) ⟨hx, hb, hml, hown, hts⟩ (c_k_Bus l dC dI q1 H.size) ⟨va_cnB (host := "UnibusMachine") 0 hts gX8_init_X0_init_n9 rfl rfl rfl hnX8_9 (hts (.initialized RX0) (by decide +kernel)) (by decide +kernel) ⟨Nat.le_of_ble_eq_true rfl, Nat.le_of_ble_eq_true rfl⟩, rfl, (hts (.instanceMethod yX0_init) (by decide +kernel))⟩ ⟨fun a U g mk q => by obtain ⟨q0, q1, qP, qK, qD, e0, e1, e2, e3, e4, e5⟩ := q; exact ⟨q0, q1, qP, va_K.moved (u := U) (U := U.calling g mk a) (Vm.Alike.refl U.vm) qK, qD, va_Nw.same (U := U.calling g mk a) rfl rfl e0, va_Nw.same (U := U.calling g mk a) rfl rfl e1, va_Nw.same (U := U.calling g mk a) rfl rfl e2, va_Nw.same (U := U.calling g mk a) rfl rfl e3, va_Nw.same (U := U.calling g mk a) rfl rfl e4, va_Nw.same (U := U.calling g mk a) rfl rfl e5⟩, fun U hU hW => ⟨rfl, by rw [hU], by rw [hU]; exact hPc, va_K.moved hW.alike hKc, hDc.weaken (fun _ _ _ _ => trivial), va_Nw.warmM hW hnX0_15, va_Nw.warmM hW hnX0_22, va_Nw.warmM hW hnX0_29, va_Nw.warmM hW hnX2_1, va_Nw.warmM hW hnX5_1, va_Nw.warmM hW hnX1_1⟩⟩ rfl rfl hl.1 rfl (lv_room (Nat.le_of_ble_eq_true rfl)) dX8_init_9 ⟨Nat.le_of_ble_eq_true rfl, Nat.le_of_ble_eq_true rfl⟩) hS (fun q _ h => hFc q h) hFc (fun u18 t H1 locs ht hvm hw hB hz1 hk1 hS => ?_)
  obtain ⟨am2, oM3, oS4, oK5, oL6, oD7, ad8, ab9, ap10, aw11, tm12, td13, tb14, tp15, tw16, hP1, hK1, hD1⟩ := hB
  rw [ht] at hP1
  have hK1 := va_K.moved hvm.symm hK1
  try dsimp only at hw
  obtain ⟨hP, hD⟩ := va_join (wr := [(h0, .inr (7, [.null, .null]))]) (w1 := [(q1, .inr (0, [.ref am2, .ref oM3, .ref oS4, .ref oK5, .ref oL6, .ref oD7])), (am2, .inl (tm12, 512, .inl (fun _ => 0))), (oM3, .inr (3, [.ref ad8, .ref ab9, .int 0])), (ad8, .inl (td13, 16, .inl (fun _ => 0))), (ab9, .inl (tb14, 16, .inl (fun _ => 0))), (oS4, .inr (6, [.int 0, .int (-1)])), (oK5, .inr (2, [.int 0, .int 0, .int 0])), (oL6, .inr (4, [.int 128, .int 0, .ref ap10, .int 0, .int 0, .int 0, .int 0])), (ap10, .inl (tp15, 32, .inl (fun _ => 0))), (oD7, .inr (1, [.int 128, .int 0, .ref aw11, .int 0, .int 0, .int 0, .int 0, .int 0, .int 0, .int 0])), (aw11, .inl (tw16, 128, .inl (fun _ => 0)))]) hP hD [1] [0] rfl rfl (by decide) (by decide) hk1 hFc hP1 hD1
  have hK := (hK.sub (tys' := []) [] rfl).app hK1
  generalize H1 = H at hP hS ⊢
  have hP : va_P (dC, dI) vwCl [(h0, .inr (7, [.null, .null])), (q1, .inr (0, [.ref am2, .ref oM3, .ref oS4, .ref oK5, .ref oL6, .ref oD7])), (am2, .inl (tm12, 512, .inl (fun _ => 0))), (oM3, .inr (3, [.ref ad8, .ref ab9, .int 0])), (ad8, .inl (td13, 16, .inl (fun _ => 0))), (ab9, .inl (tb14, 16, .inl (fun _ => 0))), (oS4, .inr (6, [.int 0, .int (-1)])), (oK5, .inr (2, [.int 0, .int 0, .int 0])), (oL6, .inr (4, [.int 128, .int 0, .ref ap10, .int 0, .int 0, .int 0, .int 0])), (ap10, .inl (tp15, 32, .inl (fun _ => 0))), (oD7, .inr (1, [.int 128, .int 0, .ref aw11, .int 0, .int 0, .int 0, .int 0, .int 0, .int 0, .int 0])), (aw11, .inl (tw16, 128, .inl (fun _ => 0)))] H := hP
  have hD : va_D A [(h0, .inr (7, [.null, .null])), (q1, .inr (0, [.ref am2, .ref oM3, .ref oS4, .ref oK5, .ref oL6, .ref oD7])), (am2, .inl (tm12, 512, .inl (fun _ => 0))), (oM3, .inr (3, [.ref ad8, .ref ab9, .int 0])), (ad8, .inl (td13, 16, .inl (fun _ => 0))), (ab9, .inl (tb14, 16, .inl (fun _ => 0))), (oS4, .inr (6, [.int 0, .int (-1)])), (oK5, .inr (2, [.int 0, .int 0, .int 0])), (oL6, .inr (4, [.int 128, .int 0, .ref ap10, .int 0, .int 0, .int 0, .int 0])), (ap10, .inl (tp15, 32, .inl (fun _ => 0))), (oD7, .inr (1, [.int 128, .int 0, .ref aw11, .int 0, .int 0, .int 0, .int 0, .int 0, .int 0, .int 0])), (aw11, .inl (tw16, 128, .inl (fun _ => 0)))] := hD
  have hK : va_K (dC, dI) vwCl [(tm12, .int), (td13, .int), (tb14, .int), (tp15, .int), (tw16, .int)] s := hK
  refine W.widen (k := 11) (n := 735) (Nat.le_of_ble_eq_true rfl) (Nat.le_of_ble_eq_true rfl) ?_
  refine va_putF (D := (dC, dI)) (ci := 7) (v := .ref q1) (ty := .object "UnibusMachine$Bus") (C := RX8) (T := TX8) (N := 2) hx hb hts (by decide +kernel) tyX8 tyX8_ok nmX8 hown hK hP hD hS 0 rfl rfl 0 (by decide) (hts (.fieldLink RX8 10 "UnibusMachine" "bus" "LUnibusMachine$Bus;") (by decide +kernel)) (fun _ h9 => h9) rfl hin rfl (by decide +kernel) rfl rfl (Nat.le_of_ble_eq_true rfl) dX8_init_12 (fun H locs hP hD hS => ?_)
  have hP : va_P (dC, dI) vwCl [(h0, .inr (7, [.ref q1, .null])), (q1, .inr (0, [.ref am2, .ref oM3, .ref oS4, .ref oK5, .ref oL6, .ref oD7])), (am2, .inl (tm12, 512, .inl (fun _ => 0))), (oM3, .inr (3, [.ref ad8, .ref ab9, .int 0])), (ad8, .inl (td13, 16, .inl (fun _ => 0))), (ab9, .inl (tb14, 16, .inl (fun _ => 0))), (oS4, .inr (6, [.int 0, .int (-1)])), (oK5, .inr (2, [.int 0, .int 0, .int 0])), (oL6, .inr (4, [.int 128, .int 0, .ref ap10, .int 0, .int 0, .int 0, .int 0])), (ap10, .inl (tp15, 32, .inl (fun _ => 0))), (oD7, .inr (1, [.int 128, .int 0, .ref aw11, .int 0, .int 0, .int 0, .int 0, .int 0, .int 0, .int 0])), (aw11, .inl (tw16, 128, .inl (fun _ => 0)))] H := hP
  have hD : va_D A [(h0, .inr (7, [.ref q1, .null])), (q1, .inr (0, [.ref am2, .ref oM3, .ref oS4, .ref oK5, .ref oL6, .ref oD7])), (am2, .inl (tm12, 512, .inl (fun _ => 0))), (oM3, .inr (3, [.ref ad8, .ref ab9, .int 0])), (ad8, .inl (td13, 16, .inl (fun _ => 0))), (ab9, .inl (tb14, 16, .inl (fun _ => 0))), (oS4, .inr (6, [.int 0, .int (-1)])), (oK5, .inr (2, [.int 0, .int 0, .int 0])), (oL6, .inr (4, [.int 128, .int 0, .ref ap10, .int 0, .int 0, .int 0, .int 0])), (ap10, .inl (tp15, 32, .inl (fun _ => 0))), (oD7, .inr (1, [.int 128, .int 0, .ref aw11, .int 0, .int 0, .int 0, .int 0, .int 0, .int 0, .int 0])), (aw11, .inl (tw16, 128, .inl (fun _ => 0)))] := hD
  refine lv_aload_n hx hb dX8_init_15 rfl (lv_at hl 0 rfl) ?_
  refine va_new (D := (dC, dI)) (ci := 5) (fs := [.null, .null, .null, .int 0, .int 0, .int 0, .int 0, .int 0, .int 0]) (C := RX6) (T := TX6) (N := 9) hx hb hts (by decide +kernel) tyX6 tyX6_ok hown (hts (.classLink RX8 16 RX6) (by decide +kernel)) (hts (.instantiable RX6 9) (by decide +kernel)) (hts (.initialized RX6) (by decide +kernel)) hK hP hD hS hA rfl (fun j hj => by rcases (show j = 0 ∨ j = 1 ∨ j = 2 ∨ j = 3 ∨ j = 4 ∨ j = 5 ∨ j = 6 ∨ j = 7 ∨ j = 8 by omega) with rfl | rfl | rfl | rfl | rfl | rfl | rfl | rfl | rfl <;> rfl) (Nat.le_of_ble_eq_true rfl) (Nat.le_of_ble_eq_true rfl) dX8_init_16 (fun q19 H hP hD hS => ?_)
  have hP : va_P (dC, dI) vwCl [(h0, .inr (7, [.ref q1, .null])), (q1, .inr (0, [.ref am2, .ref oM3, .ref oS4, .ref oK5, .ref oL6, .ref oD7])), (am2, .inl (tm12, 512, .inl (fun _ => 0))), (oM3, .inr (3, [.ref ad8, .ref ab9, .int 0])), (ad8, .inl (td13, 16, .inl (fun _ => 0))), (ab9, .inl (tb14, 16, .inl (fun _ => 0))), (oS4, .inr (6, [.int 0, .int (-1)])), (oK5, .inr (2, [.int 0, .int 0, .int 0])), (oL6, .inr (4, [.int 128, .int 0, .ref ap10, .int 0, .int 0, .int 0, .int 0])), (ap10, .inl (tp15, 32, .inl (fun _ => 0))), (oD7, .inr (1, [.int 128, .int 0, .ref aw11, .int 0, .int 0, .int 0, .int 0, .int 0, .int 0, .int 0])), (aw11, .inl (tw16, 128, .inl (fun _ => 0))), (q19, .inr (5, [.null, .null, .null, .int 0, .int 0, .int 0, .int 0, .int 0, .int 0]))] H := hP
  have hD : va_D A [(h0, .inr (7, [.ref q1, .null])), (q1, .inr (0, [.ref am2, .ref oM3, .ref oS4, .ref oK5, .ref oL6, .ref oD7])), (am2, .inl (tm12, 512, .inl (fun _ => 0))), (oM3, .inr (3, [.ref ad8, .ref ab9, .int 0])), (ad8, .inl (td13, 16, .inl (fun _ => 0))), (ab9, .inl (tb14, 16, .inl (fun _ => 0))), (oS4, .inr (6, [.int 0, .int (-1)])), (oK5, .inr (2, [.int 0, .int 0, .int 0])), (oL6, .inr (4, [.int 128, .int 0, .ref ap10, .int 0, .int 0, .int 0, .int 0])), (ap10, .inl (tp15, 32, .inl (fun _ => 0))), (oD7, .inr (1, [.int 128, .int 0, .ref aw11, .int 0, .int 0, .int 0, .int 0, .int 0, .int 0, .int 0])), (aw11, .inl (tw16, 128, .inl (fun _ => 0))), (q19, .inr (5, [.null, .null, .null, .int 0, .int 0, .int 0, .int 0, .int 0, .int 0]))] := hD
  refine W.widen (k := 12) (n := 744) (Nat.le_of_ble_eq_true rfl) (Nat.le_of_ble_eq_true rfl) ?_
  refine lv_dup hx hb dX8_init_19 rfl ?_
  refine lv_aload_n hx hb dX8_init_20 rfl (lv_at hl 0 rfl) ?_
  refine va_get (D := (dC, dI)) (ci := 7) (v := .ref q1) (C := RX8) (T := TX8) (N := 2) hx hb hts (by decide +kernel) hown hK hP 0 rfl rfl 0 (by decide) (hts (.fieldLink RX8 10 "UnibusMachine" "bus" "LUnibusMachine$Bus;") (by decide +kernel)) (fun _ h9 => h9) rfl dX8_init_21 ?_
  have hPc := hP.sub (ws' := [(q19, .inr (5, [.null, .null, .null, .int 0, .int 0, .int 0, .int 0, .int 0, .int 0])), (q1, .inr (0, [.ref am2, .ref oM3, .ref oS4, .ref oK5, .ref oL6, .ref oD7]))]) [12, 1] rfl
  have hDc := hD.sub (ws' := [(q19, .inr (5, [.null, .null, .null, .int 0, .int 0, .int 0, .int 0, .int 0, .int 0])), (q1, .inr (0, [.ref am2, .ref oM3, .ref oS4, .ref oK5, .ref oL6, .ref oD7]))]) [12, 1] (by decide) rfl
  have hKc := hK.sub (tys' := []) [] rfl
  have hFc := va_free (wc := [(q19, .inr (5, [.null, .null, .null, .int 0, .int 0, .int 0, .int 0, .int 0, .int 0])), (q1, .inr (0, [.ref am2, .ref oM3, .ref oS4, .ref oK5, .ref oL6, .ref oD7]))]) hD hS hA [12, 1] rfl
  refine va_callv (va_runI (As := [.ref q1]) (rest := [.ref q19, .ref h0]) ⟨hx, hb, hml, hown, hts⟩ (c_k_Processor l dC dI q19 q1 am2 oM3 oS4 oK5 oL6 oD7 H.size) (cwI 1 hts gX8_init_X6_init rfl rfl rfl (hts (.initialized RX6) (by decide +kernel)) (hts (.methodLink RX8 18 yX6_init) (by decide +kernel)) (hts (.instanceMethod yX6_init) (by decide +kernel)) rfl (by decide +kernel) ⟨Nat.le_of_ble_eq_true rfl, Nat.le_of_ble_eq_true rfl⟩) ⟨fun a U g mk q => by obtain ⟨q0, q1, qP, qK, qD⟩ := q; exact ⟨q0, q1, qP, va_K.moved (u := U) (U := U.calling g mk a) (Vm.Alike.refl U.vm) qK, qD⟩, fun U hU hW => ⟨rfl, by rw [hU], by rw [hU]; exact hPc, va_K.moved hW.alike hKc, hDc.weaken (fun _ _ _ _ => trivial)⟩⟩ rfl rfl hl.1 rfl (lv_room (Nat.le_of_ble_eq_true rfl)) dX8_init_24 ⟨Nat.le_of_ble_eq_true rfl, Nat.le_of_ble_eq_true rfl⟩) hS (fun q _ h => hFc q h) hFc (fun u23 t H1 locs ht hvm hw hB hz1 hk1 hS => ?_)
  obtain ⟨ar20, tr21, hP1, hK1, hD1⟩ := hB
  rw [ht] at hP1
  have hK1 := va_K.moved hvm.symm hK1
  try dsimp only at hw
  obtain ⟨hP, hD⟩ := va_join (wr := [(h0, .inr (7, [.ref q1, .null])), (am2, .inl (tm12, 512, .inl (fun _ => 0))), (oM3, .inr (3, [.ref ad8, .ref ab9, .int 0])), (ad8, .inl (td13, 16, .inl (fun _ => 0))), (ab9, .inl (tb14, 16, .inl (fun _ => 0))), (oS4, .inr (6, [.int 0, .int (-1)])), (oK5, .inr (2, [.int 0, .int 0, .int 0])), (oL6, .inr (4, [.int 128, .int 0, .ref ap10, .int 0, .int 0, .int 0, .int 0])), (ap10, .inl (tp15, 32, .inl (fun _ => 0))), (oD7, .inr (1, [.int 128, .int 0, .ref aw11, .int 0, .int 0, .int 0, .int 0, .int 0, .int 0, .int 0])), (aw11, .inl (tw16, 128, .inl (fun _ => 0)))]) (w1 := [(q19, .inr (5, [.ref ar20, .ref q1, .ref oS4, .int 0, .int 2, .int 0, .int 0, .int 0, .int 0])), (q1, .inr (0, [.ref am2, .ref oM3, .ref oS4, .ref oK5, .ref oL6, .ref oD7])), (ar20, .inl (tr21, 8, .inl (fun _ => 0)))]) hP hD [12, 1] [0, 2, 3, 4, 5, 6, 7, 8, 9, 10, 11] rfl rfl (by decide) (by decide) hk1 hFc hP1 hD1
  have hK := (hK.sub (tys' := [(tm12, .int), (td13, .int), (tb14, .int), (tp15, .int), (tw16, .int)]) [0, 1, 2, 3, 4] rfl).app hK1
  generalize H1 = H at hP hS ⊢
  have hP : va_P (dC, dI) vwCl [(h0, .inr (7, [.ref q1, .null])), (am2, .inl (tm12, 512, .inl (fun _ => 0))), (oM3, .inr (3, [.ref ad8, .ref ab9, .int 0])), (ad8, .inl (td13, 16, .inl (fun _ => 0))), (ab9, .inl (tb14, 16, .inl (fun _ => 0))), (oS4, .inr (6, [.int 0, .int (-1)])), (oK5, .inr (2, [.int 0, .int 0, .int 0])), (oL6, .inr (4, [.int 128, .int 0, .ref ap10, .int 0, .int 0, .int 0, .int 0])), (ap10, .inl (tp15, 32, .inl (fun _ => 0))), (oD7, .inr (1, [.int 128, .int 0, .ref aw11, .int 0, .int 0, .int 0, .int 0, .int 0, .int 0, .int 0])), (aw11, .inl (tw16, 128, .inl (fun _ => 0))), (q19, .inr (5, [.ref ar20, .ref q1, .ref oS4, .int 0, .int 2, .int 0, .int 0, .int 0, .int 0])), (q1, .inr (0, [.ref am2, .ref oM3, .ref oS4, .ref oK5, .ref oL6, .ref oD7])), (ar20, .inl (tr21, 8, .inl (fun _ => 0)))] H := hP
  have hD : va_D A [(h0, .inr (7, [.ref q1, .null])), (am2, .inl (tm12, 512, .inl (fun _ => 0))), (oM3, .inr (3, [.ref ad8, .ref ab9, .int 0])), (ad8, .inl (td13, 16, .inl (fun _ => 0))), (ab9, .inl (tb14, 16, .inl (fun _ => 0))), (oS4, .inr (6, [.int 0, .int (-1)])), (oK5, .inr (2, [.int 0, .int 0, .int 0])), (oL6, .inr (4, [.int 128, .int 0, .ref ap10, .int 0, .int 0, .int 0, .int 0])), (ap10, .inl (tp15, 32, .inl (fun _ => 0))), (oD7, .inr (1, [.int 128, .int 0, .ref aw11, .int 0, .int 0, .int 0, .int 0, .int 0, .int 0, .int 0])), (aw11, .inl (tw16, 128, .inl (fun _ => 0))), (q19, .inr (5, [.ref ar20, .ref q1, .ref oS4, .int 0, .int 2, .int 0, .int 0, .int 0, .int 0])), (q1, .inr (0, [.ref am2, .ref oM3, .ref oS4, .ref oK5, .ref oL6, .ref oD7])), (ar20, .inl (tr21, 8, .inl (fun _ => 0)))] := hD
  have hK : va_K (dC, dI) vwCl [(tm12, .int), (td13, .int), (tb14, .int), (tp15, .int), (tw16, .int), (tr21, .int)] s := hK
  refine W.widen (k := 13) (n := 752) (Nat.le_of_ble_eq_true rfl) (Nat.le_of_ble_eq_true rfl) ?_
  refine va_putF (D := (dC, dI)) (ci := 7) (v := .ref q19) (ty := .object "UnibusMachine$Processor") (C := RX8) (T := TX8) (N := 2) hx hb hts (by decide +kernel) tyX8 tyX8_ok nmX8 hown hK hP hD hS 0 rfl rfl 1 (by decide) (hts (.fieldLink RX8 21 "UnibusMachine" "processor" "LUnibusMachine$Processor;") (by decide +kernel)) (fun _ h9 => h9) rfl hin rfl (by decide +kernel) rfl rfl (Nat.le_of_ble_eq_true rfl) dX8_init_27 (fun H locs hP hD hS => ?_)
  have hP : va_P (dC, dI) vwCl [(h0, .inr (7, [.ref q1, .ref q19])), (am2, .inl (tm12, 512, .inl (fun _ => 0))), (oM3, .inr (3, [.ref ad8, .ref ab9, .int 0])), (ad8, .inl (td13, 16, .inl (fun _ => 0))), (ab9, .inl (tb14, 16, .inl (fun _ => 0))), (oS4, .inr (6, [.int 0, .int (-1)])), (oK5, .inr (2, [.int 0, .int 0, .int 0])), (oL6, .inr (4, [.int 128, .int 0, .ref ap10, .int 0, .int 0, .int 0, .int 0])), (ap10, .inl (tp15, 32, .inl (fun _ => 0))), (oD7, .inr (1, [.int 128, .int 0, .ref aw11, .int 0, .int 0, .int 0, .int 0, .int 0, .int 0, .int 0])), (aw11, .inl (tw16, 128, .inl (fun _ => 0))), (q19, .inr (5, [.ref ar20, .ref q1, .ref oS4, .int 0, .int 2, .int 0, .int 0, .int 0, .int 0])), (q1, .inr (0, [.ref am2, .ref oM3, .ref oS4, .ref oK5, .ref oL6, .ref oD7])), (ar20, .inl (tr21, 8, .inl (fun _ => 0)))] H := hP
  have hD : va_D A [(h0, .inr (7, [.ref q1, .ref q19])), (am2, .inl (tm12, 512, .inl (fun _ => 0))), (oM3, .inr (3, [.ref ad8, .ref ab9, .int 0])), (ad8, .inl (td13, 16, .inl (fun _ => 0))), (ab9, .inl (tb14, 16, .inl (fun _ => 0))), (oS4, .inr (6, [.int 0, .int (-1)])), (oK5, .inr (2, [.int 0, .int 0, .int 0])), (oL6, .inr (4, [.int 128, .int 0, .ref ap10, .int 0, .int 0, .int 0, .int 0])), (ap10, .inl (tp15, 32, .inl (fun _ => 0))), (oD7, .inr (1, [.int 128, .int 0, .ref aw11, .int 0, .int 0, .int 0, .int 0, .int 0, .int 0, .int 0])), (aw11, .inl (tw16, 128, .inl (fun _ => 0))), (q19, .inr (5, [.ref ar20, .ref q1, .ref oS4, .int 0, .int 2, .int 0, .int 0, .int 0, .int 0])), (q1, .inr (0, [.ref am2, .ref oM3, .ref oS4, .ref oK5, .ref oL6, .ref oD7])), (ar20, .inl (tr21, 8, .inl (fun _ => 0)))] := hD
  have hP9 := hP.sub (ws' := [(h0, .inr (7, [.ref q1, .ref q19])), (q1, .inr (0, [.ref am2, .ref oM3, .ref oS4, .ref oK5, .ref oL6, .ref oD7])), (am2, .inl (tm12, 512, .inl (fun _ => 0))), (oM3, .inr (3, [.ref ad8, .ref ab9, .int 0])), (ad8, .inl (td13, 16, .inl (fun _ => 0))), (ab9, .inl (tb14, 16, .inl (fun _ => 0))), (oS4, .inr (6, [.int 0, .int (-1)])), (oK5, .inr (2, [.int 0, .int 0, .int 0])), (oL6, .inr (4, [.int 128, .int 0, .ref ap10, .int 0, .int 0, .int 0, .int 0])), (ap10, .inl (tp15, 32, .inl (fun _ => 0))), (oD7, .inr (1, [.int 128, .int 0, .ref aw11, .int 0, .int 0, .int 0, .int 0, .int 0, .int 0, .int 0])), (aw11, .inl (tw16, 128, .inl (fun _ => 0))), (q19, .inr (5, [.ref ar20, .ref q1, .ref oS4, .int 0, .int 2, .int 0, .int 0, .int 0, .int 0])), (ar20, .inl (tr21, 8, .inl (fun _ => 0)))]) [0, 12, 1, 2, 3, 4, 5, 6, 7, 8, 9, 10, 11, 13] rfl
  have hD9 := hD.sub (ws' := [(h0, .inr (7, [.ref q1, .ref q19])), (q1, .inr (0, [.ref am2, .ref oM3, .ref oS4, .ref oK5, .ref oL6, .ref oD7])), (am2, .inl (tm12, 512, .inl (fun _ => 0))), (oM3, .inr (3, [.ref ad8, .ref ab9, .int 0])), (ad8, .inl (td13, 16, .inl (fun _ => 0))), (ab9, .inl (tb14, 16, .inl (fun _ => 0))), (oS4, .inr (6, [.int 0, .int (-1)])), (oK5, .inr (2, [.int 0, .int 0, .int 0])), (oL6, .inr (4, [.int 128, .int 0, .ref ap10, .int 0, .int 0, .int 0, .int 0])), (ap10, .inl (tp15, 32, .inl (fun _ => 0))), (oD7, .inr (1, [.int 128, .int 0, .ref aw11, .int 0, .int 0, .int 0, .int 0, .int 0, .int 0, .int 0])), (aw11, .inl (tw16, 128, .inl (fun _ => 0))), (q19, .inr (5, [.ref ar20, .ref q1, .ref oS4, .int 0, .int 2, .int 0, .int 0, .int 0, .int 0])), (ar20, .inl (tr21, 8, .inl (fun _ => 0)))]) [0, 12, 1, 2, 3, 4, 5, 6, 7, 8, 9, 10, 11, 13] (by decide) rfl
  have hK9 := hK.sub (tys' := [(tm12, .int), (td13, .int), (tb14, .int), (tp15, .int), (tw16, .int), (tr21, .int)]) [0, 1, 2, 3, 4, 5] rfl
  exact W.vret hx hb hr (fun t ht hW => ⟨⟨(), rfl, trivial, q1, q19, am2, oM3, oS4, oK5, oL6, oD7, ad8, ab9, ap10, aw11, tm12, td13, tb14, tp15, tw16, ar20, tr21, by rw [ht]; exact hP9, va_K.moved hW.alike hK9, hD9⟩, hS.F ht⟩) hS.2.2 dX8_init_30
set_option maxHeartbeats 4000000 in
set_option maxRecDepth 100000 in
theorem c_k_Model (l : Launch) (dC : Nat → ClassId) (dI : Nat → Nat → Nat) (h0 : Nat) (sz : Nat) : Met l yX9_init wsX9_init ({ frames := 1, cells := 11, slots := 727, locals := 12 } : Room) (va_Pc [.ref h0] (fun U => U.heap.size = sz ∧ va_P (dC, dI) vwCl [(h0, .inr (8, [.int 0, .null, .null, .null, .int 0, .int 0, .null, .int 0, .int 0, .int 0, .int 0, .int 0, .int 0, .null, .null, .null, .null, .null, .int 0, .int 0, .int 0, .null, .null, .int 0, .int 0, .int 0, .int 0, .int 0]))] U.heap ∧ va_K (dC, dI) vwCl [] U ∧ va_D (fun _ => True) [(h0, .inr (8, [.int 0, .null, .null, .null, .int 0, .int 0, .null, .int 0, .int 0, .int 0, .int 0, .int 0, .int 0, .null, .null, .null, .null, .null, .int 0, .int 0, .int 0, .null, .null, .int 0, .int 0, .int 0, .int 0, .int 0]))])) (va_Qv (fun (u : Unit) => True) (fun (u : Unit) (t : State) => ∃ (am : Nat) (ad : Nat) (ab : Nat) (ar : Nat) (az : Nat) (ae : Nat) (ao : Nat) (an : Nat) (au : Nat) (ap : Nat) (aw : Nat) (tm : ClassId) (td : ClassId) (tb : ClassId) (tr : ClassId) (tz : ClassId) (te : ClassId) (to : ClassId) (tn : ClassId) (tu : ClassId) (tp : ClassId) (tw : ClassId), va_P (dC, dI) vwCl [(h0, .inr (8, [.int 0, .ref am, .ref ad, .ref ab, .int 0, .int 0, .ref ar, .int 0, .int 0, .int 2, .int 0, .int 0, .int 0, .ref az, .ref ae, .ref ao, .ref an, .ref au, .int 0, .int 0, .int 0, .ref ap, .ref aw, .int 0, .int 0, .int 0, .int 0, .int 0])), (am, .inl (tm, 512, .inl (fun _ => 0))), (ad, .inl (td, 16, .inl (fun _ => 0))), (ab, .inl (tb, 16, .inl (fun _ => 0))), (ar, .inl (tr, 8, .inl (fun _ => 0))), (az, .inl (tz, 3, .inl rdy)), (ae, .inl (te, 3, .inl (fun _ => 0))), (ao, .inl (to, 3, .inl (fun _ => 0))), (an, .inl (tn, 3, .inl (fun _ => 0))), (au, .inl (tu, 3, .inl (fun _ => 0))), (ap, .inl (tp, 32, .inl (fun _ => 0))), (aw, .inl (tw, 128, .inl (fun _ => 0)))] t.heap ∧ va_K (dC, dI) vwCl [(tm, .int), (td, .int), (tb, .int), (tr, .int), (tz, .boolean), (te, .boolean), (to, .boolean), (tn, .boolean), (tu, .int), (tp, .int), (tw, .int)] t ∧ va_D (va_A [(h0, .inr (8, [.int 0, .null, .null, .null, .int 0, .int 0, .null, .int 0, .int 0, .int 0, .int 0, .int 0, .int 0, .null, .null, .null, .null, .null, .int 0, .int 0, .int 0, .null, .null, .int 0, .int 0, .int 0, .int 0, .int 0]))] sz) [(h0, .inr (8, [.int 0, .ref am, .ref ad, .ref ab, .int 0, .int 0, .ref ar, .int 0, .int 0, .int 2, .int 0, .int 0, .int 0, .ref az, .ref ae, .ref ao, .ref an, .ref au, .int 0, .int 0, .int 0, .ref ap, .ref aw, .int 0, .int 0, .int 0, .int 0, .int 0])), (am, .inl (tm, 512, .inl (fun _ => 0))), (ad, .inl (td, 16, .inl (fun _ => 0))), (ab, .inl (tb, 16, .inl (fun _ => 0))), (ar, .inl (tr, 8, .inl (fun _ => 0))), (az, .inl (tz, 3, .inl rdy)), (ae, .inl (te, 3, .inl (fun _ => 0))), (ao, .inl (to, 3, .inl (fun _ => 0))), (an, .inl (tn, 3, .inl (fun _ => 0))), (au, .inl (tu, 3, .inl (fun _ => 0))), (ap, .inl (tp, 32, .inl (fun _ => 0))), (aw, .inl (tw, 128, .inl (fun _ => 0)))]) (va_A [(h0, .inr (8, [.int 0, .null, .null, .null, .int 0, .int 0, .null, .int 0, .int 0, .int 0, .int 0, .int 0, .int 0, .null, .null, .null, .null, .null, .int 0, .int 0, .int 0, .null, .null, .int 0, .int 0, .int 0, .int 0, .int 0]))] sz)) 11 727 (va_A [(h0, .inr (8, [.int 0, .null, .null, .null, .int 0, .int 0, .null, .int 0, .int 0, .int 0, .int 0, .int 0, .int 0, .null, .null, .null, .null, .null, .int 0, .int 0, .int 0, .null, .null, .int 0, .int 0, .int 0, .int 0, .int 0]))] sz) := by
  refine Met.ofW (cc := cX9_init) (maxL := 1) (ret := none) (by decide) rfl ?_
  intro p e s m args below meth c s₁ B hml hv
  obtain ⟨rfl, hsz, hP, hK, hD0⟩ := hv
  have hx := B.exec
  have hb := B.bytes
  have hr := B.returns
  have hts := atoms_spec (ws := wsX9_init) B.pre
  have hown : s.vm.findClass RX9 = some m.cls := findClass_of_methodNamed B.named
  have hlocks := B.notSynchronized
  have hin : meth.name = "<init>" := (name_of_methodNamed B.named B.method).1
  have hD := hD0.self (sz := sz)
  generalize hAe : va_A [(h0, .inr (8, [.int 0, .null, .null, .null, .int 0, .int 0, .null, .int 0, .int 0, .int 0, .int 0, .int 0, .int 0, .null, .null, .null, .null, .null, .int 0, .int 0, .int 0, .null, .null, .int 0, .int 0, .int 0, .int 0, .int 0]))] sz = A at hD ⊢
  have hA : ∀ q : Nat, s.heap.size ≤ q → A q := fun q h => by rw [← hAe]; exact Or.inr (by omega)
  have hS0 : ∀ G : Heap, s.heap = G → va_S A s.heap G [] := fun G h => by subst h; exact va_S.rf
  generalize hHe : s.heap = H at hP ⊢
  have hS := hS0 H hHe
  have hP : va_P (dC, dI) vwCl [(h0, .inr (8, [.int 0, .null, .null, .null, .int 0, .int 0, .null, .int 0, .int 0, .int 0, .int 0, .int 0, .int 0, .null, .null, .null, .null, .null, .int 0, .int 0, .int 0, .null, .null, .int 0, .int 0, .int 0, .int 0, .int 0]))] H := hP
  have hD : va_D A [(h0, .inr (8, [.int 0, .null, .null, .null, .int 0, .int 0, .null, .int 0, .int 0, .int 0, .int 0, .int 0, .int 0, .null, .null, .null, .null, .null, .int 0, .int 0, .int 0, .null, .null, .int 0, .int 0, .int 0, .int 0, .int 0]))] := hD
  have hK : va_K (dC, dI) vwCl [] s := hK
  have hl := lv_entry ([.ref h0]) (n := 1) (Nat.le_of_ble_eq_true rfl)
  rw [lg_entry_eq]
  generalize (lg_sl ([.ref h0]) ++ List.replicate (1 - (lg_sl ([.ref h0])).length) Slot.unset).toArray = ls at hl ⊢
  have hl : lv_has ls 1 [(0, .ref h0)] := hl
  refine lv_aload_n hx hb dX9_init_0 rfl (lv_at hl 0 rfl) ?_
  refine W.objInit hx hb hown (hts (.methodLink RX9 1 objectInit) (by decide +kernel)) (hts (.instanceMethod objectInit) (by decide +kernel)) (hts _ (List.mem_of_getElem? (i := 3) rfl)) rfl (by rw [hml]; exact hl.1) rfl dX9_init_1 (Nat.le_of_ble_eq_true rfl) (Nat.le_of_ble_eq_true rfl) ?_
  refine W.eq (g2 := F0 m 4 ls []) rfl ?_
  refine lv_aload_n hx hb dX9_init_4 rfl (lv_at hl 0 rfl) ?_
  refine lv_sipush (v := 512) hx hb dX9_init_5 (by decide) ?_
  refine va_newa (atype := .int) (ty := .int) (a0 := (512, .inl (fun _ => 0))) hx hb (hts (.arrayClass .int) (by decide +kernel)) rfl hK hP hD hS hA (fun _ => rfl) (by decide) (by decide) (Nat.le_of_ble_eq_true rfl) (Nat.le_of_ble_eq_true rfl) (Nat.le_of_ble_eq_true rfl) dX9_init_8 (fun q1 cA2 H hK hP hD hS => ?_)
  have hP : va_P (dC, dI) vwCl [(h0, .inr (8, [.int 0, .null, .null, .null, .int 0, .int 0, .null, .int 0, .int 0, .int 0, .int 0, .int 0, .int 0, .null, .null, .null, .null, .null, .int 0, .int 0, .int 0, .null, .null, .int 0, .int 0, .int 0, .int 0, .int 0])), (q1, .inl (cA2, 512, .inl (fun _ => 0)))] H := hP
  have hD : va_D A [(h0, .inr (8, [.int 0, .null, .null, .null, .int 0, .int 0, .null, .int 0, .int 0, .int 0, .int 0, .int 0, .int 0, .null, .null, .null, .null, .null, .int 0, .int 0, .int 0, .null, .null, .int 0, .int 0, .int 0, .int 0, .int 0])), (q1, .inl (cA2, 512, .inl (fun _ => 0)))] := hD
  have hK : va_K (dC, dI) vwCl [(cA2, .int)] s := hK
  refine W.widen (k := 1) (n := 512) (Nat.le_of_ble_eq_true rfl) (Nat.le_of_ble_eq_true rfl) ?_
  refine va_putF (D := (dC, dI)) (ci := 8) (v := .ref q1) (ty := .array .int) (C := RX9) (T := TX9) (N := 28) hx hb hts (by decide +kernel) tyX9 tyX9_ok nmX9 hown hK hP hD hS 0 rfl rfl 1 (by decide) (hts (.fieldLink RX9 7 "UnibusMachineModel" "memory" "[I") (by decide +kernel)) (fun _ h9 => h9) rfl hin rfl (by decide +kernel) rfl rfl (Nat.le_of_ble_eq_true rfl) dX9_init_10 (fun H locs hP hD hS => ?_)
  have hP : va_P (dC, dI) vwCl [(h0, .inr (8, [.int 0, .ref q1, .null, .null, .int 0, .int 0, .null, .int 0, .int 0, .int 0, .int 0, .int 0, .int 0, .null, .null, .null, .null, .null, .int 0, .int 0, .int 0, .null, .null, .int 0, .int 0, .int 0, .int 0, .int 0])), (q1, .inl (cA2, 512, .inl (fun _ => 0)))] H := hP
  have hD : va_D A [(h0, .inr (8, [.int 0, .ref q1, .null, .null, .int 0, .int 0, .null, .int 0, .int 0, .int 0, .int 0, .int 0, .int 0, .null, .null, .null, .null, .null, .int 0, .int 0, .int 0, .null, .null, .int 0, .int 0, .int 0, .int 0, .int 0])), (q1, .inl (cA2, 512, .inl (fun _ => 0)))] := hD
  refine lv_aload_n hx hb dX9_init_13 rfl (lv_at hl 0 rfl) ?_
  refine lv_bipush (v := 16) hx hb dX9_init_14 (by decide) ?_
  refine va_newa (atype := .int) (ty := .int) (a0 := (16, .inl (fun _ => 0))) hx hb (hts (.arrayClass .int) (by decide +kernel)) rfl hK hP hD hS hA (fun _ => rfl) (by decide) (by decide) (Nat.le_of_ble_eq_true rfl) (Nat.le_of_ble_eq_true rfl) (Nat.le_of_ble_eq_true rfl) dX9_init_16 (fun q3 cA4 H hK hP hD hS => ?_)
  have hP : va_P (dC, dI) vwCl [(h0, .inr (8, [.int 0, .ref q1, .null, .null, .int 0, .int 0, .null, .int 0, .int 0, .int 0, .int 0, .int 0, .int 0, .null, .null, .null, .null, .null, .int 0, .int 0, .int 0, .null, .null, .int 0, .int 0, .int 0, .int 0, .int 0])), (q1, .inl (cA2, 512, .inl (fun _ => 0))), (q3, .inl (cA4, 16, .inl (fun _ => 0)))] H := hP
  have hD : va_D A [(h0, .inr (8, [.int 0, .ref q1, .null, .null, .int 0, .int 0, .null, .int 0, .int 0, .int 0, .int 0, .int 0, .int 0, .null, .null, .null, .null, .null, .int 0, .int 0, .int 0, .null, .null, .int 0, .int 0, .int 0, .int 0, .int 0])), (q1, .inl (cA2, 512, .inl (fun _ => 0))), (q3, .inl (cA4, 16, .inl (fun _ => 0)))] := hD
  have hK : va_K (dC, dI) vwCl [(cA2, .int), (cA4, .int)] s := hK
  refine W.widen (k := 2) (n := 528) (Nat.le_of_ble_eq_true rfl) (Nat.le_of_ble_eq_true rfl) ?_
  refine va_putF (D := (dC, dI)) (ci := 8) (v := .ref q3) (ty := .array .int) (C := RX9) (T := TX9) (N := 28) hx hb hts (by decide +kernel) tyX9 tyX9_ok nmX9 hown hK hP hD hS 0 rfl rfl 2 (by decide) (hts (.fieldLink RX9 13 "UnibusMachineModel" "descriptor" "[I") (by decide +kernel)) (fun _ h9 => h9) rfl hin rfl (by decide +kernel) rfl rfl (Nat.le_of_ble_eq_true rfl) dX9_init_18 (fun H locs hP hD hS => ?_)
  have hP : va_P (dC, dI) vwCl [(h0, .inr (8, [.int 0, .ref q1, .ref q3, .null, .int 0, .int 0, .null, .int 0, .int 0, .int 0, .int 0, .int 0, .int 0, .null, .null, .null, .null, .null, .int 0, .int 0, .int 0, .null, .null, .int 0, .int 0, .int 0, .int 0, .int 0])), (q1, .inl (cA2, 512, .inl (fun _ => 0))), (q3, .inl (cA4, 16, .inl (fun _ => 0)))] H := hP
  have hD : va_D A [(h0, .inr (8, [.int 0, .ref q1, .ref q3, .null, .int 0, .int 0, .null, .int 0, .int 0, .int 0, .int 0, .int 0, .int 0, .null, .null, .null, .null, .null, .int 0, .int 0, .int 0, .null, .null, .int 0, .int 0, .int 0, .int 0, .int 0])), (q1, .inl (cA2, 512, .inl (fun _ => 0))), (q3, .inl (cA4, 16, .inl (fun _ => 0)))] := hD
  refine lv_aload_n hx hb dX9_init_21 rfl (lv_at hl 0 rfl) ?_
  refine lv_bipush (v := 16) hx hb dX9_init_22 (by decide) ?_
  refine va_newa (atype := .int) (ty := .int) (a0 := (16, .inl (fun _ => 0))) hx hb (hts (.arrayClass .int) (by decide +kernel)) rfl hK hP hD hS hA (fun _ => rfl) (by decide) (by decide) (Nat.le_of_ble_eq_true rfl) (Nat.le_of_ble_eq_true rfl) (Nat.le_of_ble_eq_true rfl) dX9_init_24 (fun q5 cA6 H hK hP hD hS => ?_)
  have hP : va_P (dC, dI) vwCl [(h0, .inr (8, [.int 0, .ref q1, .ref q3, .null, .int 0, .int 0, .null, .int 0, .int 0, .int 0, .int 0, .int 0, .int 0, .null, .null, .null, .null, .null, .int 0, .int 0, .int 0, .null, .null, .int 0, .int 0, .int 0, .int 0, .int 0])), (q1, .inl (cA2, 512, .inl (fun _ => 0))), (q3, .inl (cA4, 16, .inl (fun _ => 0))), (q5, .inl (cA6, 16, .inl (fun _ => 0)))] H := hP
  have hD : va_D A [(h0, .inr (8, [.int 0, .ref q1, .ref q3, .null, .int 0, .int 0, .null, .int 0, .int 0, .int 0, .int 0, .int 0, .int 0, .null, .null, .null, .null, .null, .int 0, .int 0, .int 0, .null, .null, .int 0, .int 0, .int 0, .int 0, .int 0])), (q1, .inl (cA2, 512, .inl (fun _ => 0))), (q3, .inl (cA4, 16, .inl (fun _ => 0))), (q5, .inl (cA6, 16, .inl (fun _ => 0)))] := hD
  have hK : va_K (dC, dI) vwCl [(cA2, .int), (cA4, .int), (cA6, .int)] s := hK
  refine W.widen (k := 3) (n := 544) (Nat.le_of_ble_eq_true rfl) (Nat.le_of_ble_eq_true rfl) ?_
  refine va_putF (D := (dC, dI)) (ci := 8) (v := .ref q5) (ty := .array .int) (C := RX9) (T := TX9) (N := 28) hx hb hts (by decide +kernel) tyX9 tyX9_ok nmX9 hown hK hP hD hS 0 rfl rfl 3 (by decide) (hts (.fieldLink RX9 16 "UnibusMachineModel" "base" "[I") (by decide +kernel)) (fun _ h9 => h9) rfl hin rfl (by decide +kernel) rfl rfl (Nat.le_of_ble_eq_true rfl) dX9_init_26 (fun H locs hP hD hS => ?_)
  have hP : va_P (dC, dI) vwCl [(h0, .inr (8, [.int 0, .ref q1, .ref q3, .ref q5, .int 0, .int 0, .null, .int 0, .int 0, .int 0, .int 0, .int 0, .int 0, .null, .null, .null, .null, .null, .int 0, .int 0, .int 0, .null, .null, .int 0, .int 0, .int 0, .int 0, .int 0])), (q1, .inl (cA2, 512, .inl (fun _ => 0))), (q3, .inl (cA4, 16, .inl (fun _ => 0))), (q5, .inl (cA6, 16, .inl (fun _ => 0)))] H := hP
  have hD : va_D A [(h0, .inr (8, [.int 0, .ref q1, .ref q3, .ref q5, .int 0, .int 0, .null, .int 0, .int 0, .int 0, .int 0, .int 0, .int 0, .null, .null, .null, .null, .null, .int 0, .int 0, .int 0, .null, .null, .int 0, .int 0, .int 0, .int 0, .int 0])), (q1, .inl (cA2, 512, .inl (fun _ => 0))), (q3, .inl (cA4, 16, .inl (fun _ => 0))), (q5, .inl (cA6, 16, .inl (fun _ => 0)))] := hD
  refine lv_aload_n hx hb dX9_init_29 rfl (lv_at hl 0 rfl) ?_
  refine lv_bipush (v := 8) hx hb dX9_init_30 (by decide) ?_
  refine va_newa (atype := .int) (ty := .int) (a0 := (8, .inl (fun _ => 0))) hx hb (hts (.arrayClass .int) (by decide +kernel)) rfl hK hP hD hS hA (fun _ => rfl) (by decide) (by decide) (Nat.le_of_ble_eq_true rfl) (Nat.le_of_ble_eq_true rfl) (Nat.le_of_ble_eq_true rfl) dX9_init_32 (fun q7 cA8 H hK hP hD hS => ?_)
  have hP : va_P (dC, dI) vwCl [(h0, .inr (8, [.int 0, .ref q1, .ref q3, .ref q5, .int 0, .int 0, .null, .int 0, .int 0, .int 0, .int 0, .int 0, .int 0, .null, .null, .null, .null, .null, .int 0, .int 0, .int 0, .null, .null, .int 0, .int 0, .int 0, .int 0, .int 0])), (q1, .inl (cA2, 512, .inl (fun _ => 0))), (q3, .inl (cA4, 16, .inl (fun _ => 0))), (q5, .inl (cA6, 16, .inl (fun _ => 0))), (q7, .inl (cA8, 8, .inl (fun _ => 0)))] H := hP
  have hD : va_D A [(h0, .inr (8, [.int 0, .ref q1, .ref q3, .ref q5, .int 0, .int 0, .null, .int 0, .int 0, .int 0, .int 0, .int 0, .int 0, .null, .null, .null, .null, .null, .int 0, .int 0, .int 0, .null, .null, .int 0, .int 0, .int 0, .int 0, .int 0])), (q1, .inl (cA2, 512, .inl (fun _ => 0))), (q3, .inl (cA4, 16, .inl (fun _ => 0))), (q5, .inl (cA6, 16, .inl (fun _ => 0))), (q7, .inl (cA8, 8, .inl (fun _ => 0)))] := hD
  have hK : va_K (dC, dI) vwCl [(cA2, .int), (cA4, .int), (cA6, .int), (cA8, .int)] s := hK
  refine W.widen (k := 4) (n := 552) (Nat.le_of_ble_eq_true rfl) (Nat.le_of_ble_eq_true rfl) ?_
  refine va_putF (D := (dC, dI)) (ci := 8) (v := .ref q7) (ty := .array .int) (C := RX9) (T := TX9) (N := 28) hx hb hts (by decide +kernel) tyX9 tyX9_ok nmX9 hown hK hP hD hS 0 rfl rfl 6 (by decide) (hts (.fieldLink RX9 19 "UnibusMachineModel" "reg" "[I") (by decide +kernel)) (fun _ h9 => h9) rfl hin rfl (by decide +kernel) rfl rfl (Nat.le_of_ble_eq_true rfl) dX9_init_34 (fun H locs hP hD hS => ?_)
  have hP : va_P (dC, dI) vwCl [(h0, .inr (8, [.int 0, .ref q1, .ref q3, .ref q5, .int 0, .int 0, .ref q7, .int 0, .int 0, .int 0, .int 0, .int 0, .int 0, .null, .null, .null, .null, .null, .int 0, .int 0, .int 0, .null, .null, .int 0, .int 0, .int 0, .int 0, .int 0])), (q1, .inl (cA2, 512, .inl (fun _ => 0))), (q3, .inl (cA4, 16, .inl (fun _ => 0))), (q5, .inl (cA6, 16, .inl (fun _ => 0))), (q7, .inl (cA8, 8, .inl (fun _ => 0)))] H := hP
  have hD : va_D A [(h0, .inr (8, [.int 0, .ref q1, .ref q3, .ref q5, .int 0, .int 0, .ref q7, .int 0, .int 0, .int 0, .int 0, .int 0, .int 0, .null, .null, .null, .null, .null, .int 0, .int 0, .int 0, .null, .null, .int 0, .int 0, .int 0, .int 0, .int 0])), (q1, .inl (cA2, 512, .inl (fun _ => 0))), (q3, .inl (cA4, 16, .inl (fun _ => 0))), (q5, .inl (cA6, 16, .inl (fun _ => 0))), (q7, .inl (cA8, 8, .inl (fun _ => 0)))] := hD
  refine lv_aload_n hx hb dX9_init_37 rfl (lv_at hl 0 rfl) ?_
  refine lv_iconst (v := 2) hx hb dX9_init_38 (by decide) ?_
  refine va_put (D := (dC, dI)) (ci := 8) (v := .int 2) (ty := .int) (C := RX9) (T := TX9) (N := 28) hx hb hts (by decide +kernel) tyX9 tyX9_ok nmX9 hown hK hP hD hS 0 rfl rfl 9 (by decide) (hts (.fieldLink RX9 22 "UnibusMachineModel" "state" "I") (by decide +kernel)) (fun _ h9 => h9) rfl (by decide +kernel) rfl rfl (Nat.le_of_ble_eq_true rfl) dX9_init_39 (fun H locs hP hD hS => ?_)
  have hP : va_P (dC, dI) vwCl [(h0, .inr (8, [.int 0, .ref q1, .ref q3, .ref q5, .int 0, .int 0, .ref q7, .int 0, .int 0, .int 2, .int 0, .int 0, .int 0, .null, .null, .null, .null, .null, .int 0, .int 0, .int 0, .null, .null, .int 0, .int 0, .int 0, .int 0, .int 0])), (q1, .inl (cA2, 512, .inl (fun _ => 0))), (q3, .inl (cA4, 16, .inl (fun _ => 0))), (q5, .inl (cA6, 16, .inl (fun _ => 0))), (q7, .inl (cA8, 8, .inl (fun _ => 0)))] H := hP
  have hD : va_D A [(h0, .inr (8, [.int 0, .ref q1, .ref q3, .ref q5, .int 0, .int 0, .ref q7, .int 0, .int 0, .int 2, .int 0, .int 0, .int 0, .null, .null, .null, .null, .null, .int 0, .int 0, .int 0, .null, .null, .int 0, .int 0, .int 0, .int 0, .int 0])), (q1, .inl (cA2, 512, .inl (fun _ => 0))), (q3, .inl (cA4, 16, .inl (fun _ => 0))), (q5, .inl (cA6, 16, .inl (fun _ => 0))), (q7, .inl (cA8, 8, .inl (fun _ => 0)))] := hD
  refine lv_aload_n hx hb dX9_init_42 rfl (lv_at hl 0 rfl) ?_
  refine lv_iconst (v := 3) hx hb dX9_init_43 (by decide) ?_
  refine va_newa (atype := .boolean) (ty := .boolean) (a0 := (3, .inl (fun _ => 0))) hx hb (hts (.arrayClass .boolean) (by decide +kernel)) rfl hK hP hD hS hA (fun _ => rfl) (by decide) (by decide) (Nat.le_of_ble_eq_true rfl) (Nat.le_of_ble_eq_true rfl) (Nat.le_of_ble_eq_true rfl) dX9_init_44 (fun q9 cA10 H hK hP hD hS => ?_)
  have hP : va_P (dC, dI) vwCl [(h0, .inr (8, [.int 0, .ref q1, .ref q3, .ref q5, .int 0, .int 0, .ref q7, .int 0, .int 0, .int 2, .int 0, .int 0, .int 0, .null, .null, .null, .null, .null, .int 0, .int 0, .int 0, .null, .null, .int 0, .int 0, .int 0, .int 0, .int 0])), (q1, .inl (cA2, 512, .inl (fun _ => 0))), (q3, .inl (cA4, 16, .inl (fun _ => 0))), (q5, .inl (cA6, 16, .inl (fun _ => 0))), (q7, .inl (cA8, 8, .inl (fun _ => 0))), (q9, .inl (cA10, 3, .inl (fun _ => 0)))] H := hP
  have hD : va_D A [(h0, .inr (8, [.int 0, .ref q1, .ref q3, .ref q5, .int 0, .int 0, .ref q7, .int 0, .int 0, .int 2, .int 0, .int 0, .int 0, .null, .null, .null, .null, .null, .int 0, .int 0, .int 0, .null, .null, .int 0, .int 0, .int 0, .int 0, .int 0])), (q1, .inl (cA2, 512, .inl (fun _ => 0))), (q3, .inl (cA4, 16, .inl (fun _ => 0))), (q5, .inl (cA6, 16, .inl (fun _ => 0))), (q7, .inl (cA8, 8, .inl (fun _ => 0))), (q9, .inl (cA10, 3, .inl (fun _ => 0)))] := hD
  have hK : va_K (dC, dI) vwCl [(cA2, .int), (cA4, .int), (cA6, .int), (cA8, .int), (cA10, .boolean)] s := hK
  refine W.widen (k := 5) (n := 555) (Nat.le_of_ble_eq_true rfl) (Nat.le_of_ble_eq_true rfl) ?_
  refine va_putF (D := (dC, dI)) (ci := 8) (v := .ref q9) (ty := .array .boolean) (C := RX9) (T := TX9) (N := 28) hx hb hts (by decide +kernel) tyX9 tyX9_ok nmX9 hown hK hP hD hS 0 rfl rfl 13 (by decide) (hts (.fieldLink RX9 26 "UnibusMachineModel" "ready" "[Z") (by decide +kernel)) (fun _ h9 => h9) rfl hin rfl (by decide +kernel) rfl rfl (Nat.le_of_ble_eq_true rfl) dX9_init_46 (fun H locs hP hD hS => ?_)
  have hP : va_P (dC, dI) vwCl [(h0, .inr (8, [.int 0, .ref q1, .ref q3, .ref q5, .int 0, .int 0, .ref q7, .int 0, .int 0, .int 2, .int 0, .int 0, .int 0, .ref q9, .null, .null, .null, .null, .int 0, .int 0, .int 0, .null, .null, .int 0, .int 0, .int 0, .int 0, .int 0])), (q1, .inl (cA2, 512, .inl (fun _ => 0))), (q3, .inl (cA4, 16, .inl (fun _ => 0))), (q5, .inl (cA6, 16, .inl (fun _ => 0))), (q7, .inl (cA8, 8, .inl (fun _ => 0))), (q9, .inl (cA10, 3, .inl (fun _ => 0)))] H := hP
  have hD : va_D A [(h0, .inr (8, [.int 0, .ref q1, .ref q3, .ref q5, .int 0, .int 0, .ref q7, .int 0, .int 0, .int 2, .int 0, .int 0, .int 0, .ref q9, .null, .null, .null, .null, .int 0, .int 0, .int 0, .null, .null, .int 0, .int 0, .int 0, .int 0, .int 0])), (q1, .inl (cA2, 512, .inl (fun _ => 0))), (q3, .inl (cA4, 16, .inl (fun _ => 0))), (q5, .inl (cA6, 16, .inl (fun _ => 0))), (q7, .inl (cA8, 8, .inl (fun _ => 0))), (q9, .inl (cA10, 3, .inl (fun _ => 0)))] := hD
  refine lv_aload_n hx hb dX9_init_49 rfl (lv_at hl 0 rfl) ?_
  refine lv_iconst (v := 3) hx hb dX9_init_50 (by decide) ?_
  refine va_newa (atype := .boolean) (ty := .boolean) (a0 := (3, .inl (fun _ => 0))) hx hb (hts (.arrayClass .boolean) (by decide +kernel)) rfl hK hP hD hS hA (fun _ => rfl) (by decide) (by decide) (Nat.le_of_ble_eq_true rfl) (Nat.le_of_ble_eq_true rfl) (Nat.le_of_ble_eq_true rfl) dX9_init_51 (fun q11 cA12 H hK hP hD hS => ?_)
  have hP : va_P (dC, dI) vwCl [(h0, .inr (8, [.int 0, .ref q1, .ref q3, .ref q5, .int 0, .int 0, .ref q7, .int 0, .int 0, .int 2, .int 0, .int 0, .int 0, .ref q9, .null, .null, .null, .null, .int 0, .int 0, .int 0, .null, .null, .int 0, .int 0, .int 0, .int 0, .int 0])), (q1, .inl (cA2, 512, .inl (fun _ => 0))), (q3, .inl (cA4, 16, .inl (fun _ => 0))), (q5, .inl (cA6, 16, .inl (fun _ => 0))), (q7, .inl (cA8, 8, .inl (fun _ => 0))), (q9, .inl (cA10, 3, .inl (fun _ => 0))), (q11, .inl (cA12, 3, .inl (fun _ => 0)))] H := hP
  have hD : va_D A [(h0, .inr (8, [.int 0, .ref q1, .ref q3, .ref q5, .int 0, .int 0, .ref q7, .int 0, .int 0, .int 2, .int 0, .int 0, .int 0, .ref q9, .null, .null, .null, .null, .int 0, .int 0, .int 0, .null, .null, .int 0, .int 0, .int 0, .int 0, .int 0])), (q1, .inl (cA2, 512, .inl (fun _ => 0))), (q3, .inl (cA4, 16, .inl (fun _ => 0))), (q5, .inl (cA6, 16, .inl (fun _ => 0))), (q7, .inl (cA8, 8, .inl (fun _ => 0))), (q9, .inl (cA10, 3, .inl (fun _ => 0))), (q11, .inl (cA12, 3, .inl (fun _ => 0)))] := hD
  have hK : va_K (dC, dI) vwCl [(cA2, .int), (cA4, .int), (cA6, .int), (cA8, .int), (cA10, .boolean), (cA12, .boolean)] s := hK
  refine W.widen (k := 6) (n := 558) (Nat.le_of_ble_eq_true rfl) (Nat.le_of_ble_eq_true rfl) ?_
  refine va_putF (D := (dC, dI)) (ci := 8) (v := .ref q11) (ty := .array .boolean) (C := RX9) (T := TX9) (N := 28) hx hb hts (by decide +kernel) tyX9 tyX9_ok nmX9 hown hK hP hD hS 0 rfl rfl 14 (by decide) (hts (.fieldLink RX9 30 "UnibusMachineModel" "enabled" "[Z") (by decide +kernel)) (fun _ h9 => h9) rfl hin rfl (by decide +kernel) rfl rfl (Nat.le_of_ble_eq_true rfl) dX9_init_53 (fun H locs hP hD hS => ?_)
  have hP : va_P (dC, dI) vwCl [(h0, .inr (8, [.int 0, .ref q1, .ref q3, .ref q5, .int 0, .int 0, .ref q7, .int 0, .int 0, .int 2, .int 0, .int 0, .int 0, .ref q9, .ref q11, .null, .null, .null, .int 0, .int 0, .int 0, .null, .null, .int 0, .int 0, .int 0, .int 0, .int 0])), (q1, .inl (cA2, 512, .inl (fun _ => 0))), (q3, .inl (cA4, 16, .inl (fun _ => 0))), (q5, .inl (cA6, 16, .inl (fun _ => 0))), (q7, .inl (cA8, 8, .inl (fun _ => 0))), (q9, .inl (cA10, 3, .inl (fun _ => 0))), (q11, .inl (cA12, 3, .inl (fun _ => 0)))] H := hP
  have hD : va_D A [(h0, .inr (8, [.int 0, .ref q1, .ref q3, .ref q5, .int 0, .int 0, .ref q7, .int 0, .int 0, .int 2, .int 0, .int 0, .int 0, .ref q9, .ref q11, .null, .null, .null, .int 0, .int 0, .int 0, .null, .null, .int 0, .int 0, .int 0, .int 0, .int 0])), (q1, .inl (cA2, 512, .inl (fun _ => 0))), (q3, .inl (cA4, 16, .inl (fun _ => 0))), (q5, .inl (cA6, 16, .inl (fun _ => 0))), (q7, .inl (cA8, 8, .inl (fun _ => 0))), (q9, .inl (cA10, 3, .inl (fun _ => 0))), (q11, .inl (cA12, 3, .inl (fun _ => 0)))] := hD
  refine lv_aload_n hx hb dX9_init_56 rfl (lv_at hl 0 rfl) ?_
  refine lv_iconst (v := 3) hx hb dX9_init_57 (by decide) ?_
  refine va_newa (atype := .boolean) (ty := .boolean) (a0 := (3, .inl (fun _ => 0))) hx hb (hts (.arrayClass .boolean) (by decide +kernel)) rfl hK hP hD hS hA (fun _ => rfl) (by decide) (by decide) (Nat.le_of_ble_eq_true rfl) (Nat.le_of_ble_eq_true rfl) (Nat.le_of_ble_eq_true rfl) dX9_init_58 (fun q13 cA14 H hK hP hD hS => ?_)
  have hP : va_P (dC, dI) vwCl [(h0, .inr (8, [.int 0, .ref q1, .ref q3, .ref q5, .int 0, .int 0, .ref q7, .int 0, .int 0, .int 2, .int 0, .int 0, .int 0, .ref q9, .ref q11, .null, .null, .null, .int 0, .int 0, .int 0, .null, .null, .int 0, .int 0, .int 0, .int 0, .int 0])), (q1, .inl (cA2, 512, .inl (fun _ => 0))), (q3, .inl (cA4, 16, .inl (fun _ => 0))), (q5, .inl (cA6, 16, .inl (fun _ => 0))), (q7, .inl (cA8, 8, .inl (fun _ => 0))), (q9, .inl (cA10, 3, .inl (fun _ => 0))), (q11, .inl (cA12, 3, .inl (fun _ => 0))), (q13, .inl (cA14, 3, .inl (fun _ => 0)))] H := hP
  have hD : va_D A [(h0, .inr (8, [.int 0, .ref q1, .ref q3, .ref q5, .int 0, .int 0, .ref q7, .int 0, .int 0, .int 2, .int 0, .int 0, .int 0, .ref q9, .ref q11, .null, .null, .null, .int 0, .int 0, .int 0, .null, .null, .int 0, .int 0, .int 0, .int 0, .int 0])), (q1, .inl (cA2, 512, .inl (fun _ => 0))), (q3, .inl (cA4, 16, .inl (fun _ => 0))), (q5, .inl (cA6, 16, .inl (fun _ => 0))), (q7, .inl (cA8, 8, .inl (fun _ => 0))), (q9, .inl (cA10, 3, .inl (fun _ => 0))), (q11, .inl (cA12, 3, .inl (fun _ => 0))), (q13, .inl (cA14, 3, .inl (fun _ => 0)))] := hD
  have hK : va_K (dC, dI) vwCl [(cA2, .int), (cA4, .int), (cA6, .int), (cA8, .int), (cA10, .boolean), (cA12, .boolean), (cA14, .boolean)] s := hK
  refine W.widen (k := 7) (n := 561) (Nat.le_of_ble_eq_true rfl) (Nat.le_of_ble_eq_true rfl) ?_
  refine va_putF (D := (dC, dI)) (ci := 8) (v := .ref q13) (ty := .array .boolean) (C := RX9) (T := TX9) (N := 28) hx hb hts (by decide +kernel) tyX9 tyX9_ok nmX9 hown hK hP hD hS 0 rfl rfl 15 (by decide) (hts (.fieldLink RX9 33 "UnibusMachineModel" "both" "[Z") (by decide +kernel)) (fun _ h9 => h9) rfl hin rfl (by decide +kernel) rfl rfl (Nat.le_of_ble_eq_true rfl) dX9_init_60 (fun H locs hP hD hS => ?_)
  have hP : va_P (dC, dI) vwCl [(h0, .inr (8, [.int 0, .ref q1, .ref q3, .ref q5, .int 0, .int 0, .ref q7, .int 0, .int 0, .int 2, .int 0, .int 0, .int 0, .ref q9, .ref q11, .ref q13, .null, .null, .int 0, .int 0, .int 0, .null, .null, .int 0, .int 0, .int 0, .int 0, .int 0])), (q1, .inl (cA2, 512, .inl (fun _ => 0))), (q3, .inl (cA4, 16, .inl (fun _ => 0))), (q5, .inl (cA6, 16, .inl (fun _ => 0))), (q7, .inl (cA8, 8, .inl (fun _ => 0))), (q9, .inl (cA10, 3, .inl (fun _ => 0))), (q11, .inl (cA12, 3, .inl (fun _ => 0))), (q13, .inl (cA14, 3, .inl (fun _ => 0)))] H := hP
  have hD : va_D A [(h0, .inr (8, [.int 0, .ref q1, .ref q3, .ref q5, .int 0, .int 0, .ref q7, .int 0, .int 0, .int 2, .int 0, .int 0, .int 0, .ref q9, .ref q11, .ref q13, .null, .null, .int 0, .int 0, .int 0, .null, .null, .int 0, .int 0, .int 0, .int 0, .int 0])), (q1, .inl (cA2, 512, .inl (fun _ => 0))), (q3, .inl (cA4, 16, .inl (fun _ => 0))), (q5, .inl (cA6, 16, .inl (fun _ => 0))), (q7, .inl (cA8, 8, .inl (fun _ => 0))), (q9, .inl (cA10, 3, .inl (fun _ => 0))), (q11, .inl (cA12, 3, .inl (fun _ => 0))), (q13, .inl (cA14, 3, .inl (fun _ => 0)))] := hD
  refine lv_aload_n hx hb dX9_init_63 rfl (lv_at hl 0 rfl) ?_
  refine lv_iconst (v := 3) hx hb dX9_init_64 (by decide) ?_
  refine va_newa (atype := .boolean) (ty := .boolean) (a0 := (3, .inl (fun _ => 0))) hx hb (hts (.arrayClass .boolean) (by decide +kernel)) rfl hK hP hD hS hA (fun _ => rfl) (by decide) (by decide) (Nat.le_of_ble_eq_true rfl) (Nat.le_of_ble_eq_true rfl) (Nat.le_of_ble_eq_true rfl) dX9_init_65 (fun q15 cA16 H hK hP hD hS => ?_)
  have hP : va_P (dC, dI) vwCl [(h0, .inr (8, [.int 0, .ref q1, .ref q3, .ref q5, .int 0, .int 0, .ref q7, .int 0, .int 0, .int 2, .int 0, .int 0, .int 0, .ref q9, .ref q11, .ref q13, .null, .null, .int 0, .int 0, .int 0, .null, .null, .int 0, .int 0, .int 0, .int 0, .int 0])), (q1, .inl (cA2, 512, .inl (fun _ => 0))), (q3, .inl (cA4, 16, .inl (fun _ => 0))), (q5, .inl (cA6, 16, .inl (fun _ => 0))), (q7, .inl (cA8, 8, .inl (fun _ => 0))), (q9, .inl (cA10, 3, .inl (fun _ => 0))), (q11, .inl (cA12, 3, .inl (fun _ => 0))), (q13, .inl (cA14, 3, .inl (fun _ => 0))), (q15, .inl (cA16, 3, .inl (fun _ => 0)))] H := hP
  have hD : va_D A [(h0, .inr (8, [.int 0, .ref q1, .ref q3, .ref q5, .int 0, .int 0, .ref q7, .int 0, .int 0, .int 2, .int 0, .int 0, .int 0, .ref q9, .ref q11, .ref q13, .null, .null, .int 0, .int 0, .int 0, .null, .null, .int 0, .int 0, .int 0, .int 0, .int 0])), (q1, .inl (cA2, 512, .inl (fun _ => 0))), (q3, .inl (cA4, 16, .inl (fun _ => 0))), (q5, .inl (cA6, 16, .inl (fun _ => 0))), (q7, .inl (cA8, 8, .inl (fun _ => 0))), (q9, .inl (cA10, 3, .inl (fun _ => 0))), (q11, .inl (cA12, 3, .inl (fun _ => 0))), (q13, .inl (cA14, 3, .inl (fun _ => 0))), (q15, .inl (cA16, 3, .inl (fun _ => 0)))] := hD
  have hK : va_K (dC, dI) vwCl [(cA2, .int), (cA4, .int), (cA6, .int), (cA8, .int), (cA10, .boolean), (cA12, .boolean), (cA14, .boolean), (cA16, .boolean)] s := hK
  refine W.widen (k := 8) (n := 564) (Nat.le_of_ble_eq_true rfl) (Nat.le_of_ble_eq_true rfl) ?_
  refine va_putF (D := (dC, dI)) (ci := 8) (v := .ref q15) (ty := .array .boolean) (C := RX9) (T := TX9) (N := 28) hx hb hts (by decide +kernel) tyX9 tyX9_ok nmX9 hown hK hP hD hS 0 rfl rfl 16 (by decide) (hts (.fieldLink RX9 36 "UnibusMachineModel" "wants" "[Z") (by decide +kernel)) (fun _ h9 => h9) rfl hin rfl (by decide +kernel) rfl rfl (Nat.le_of_ble_eq_true rfl) dX9_init_67 (fun H locs hP hD hS => ?_)
  have hP : va_P (dC, dI) vwCl [(h0, .inr (8, [.int 0, .ref q1, .ref q3, .ref q5, .int 0, .int 0, .ref q7, .int 0, .int 0, .int 2, .int 0, .int 0, .int 0, .ref q9, .ref q11, .ref q13, .ref q15, .null, .int 0, .int 0, .int 0, .null, .null, .int 0, .int 0, .int 0, .int 0, .int 0])), (q1, .inl (cA2, 512, .inl (fun _ => 0))), (q3, .inl (cA4, 16, .inl (fun _ => 0))), (q5, .inl (cA6, 16, .inl (fun _ => 0))), (q7, .inl (cA8, 8, .inl (fun _ => 0))), (q9, .inl (cA10, 3, .inl (fun _ => 0))), (q11, .inl (cA12, 3, .inl (fun _ => 0))), (q13, .inl (cA14, 3, .inl (fun _ => 0))), (q15, .inl (cA16, 3, .inl (fun _ => 0)))] H := hP
  have hD : va_D A [(h0, .inr (8, [.int 0, .ref q1, .ref q3, .ref q5, .int 0, .int 0, .ref q7, .int 0, .int 0, .int 2, .int 0, .int 0, .int 0, .ref q9, .ref q11, .ref q13, .ref q15, .null, .int 0, .int 0, .int 0, .null, .null, .int 0, .int 0, .int 0, .int 0, .int 0])), (q1, .inl (cA2, 512, .inl (fun _ => 0))), (q3, .inl (cA4, 16, .inl (fun _ => 0))), (q5, .inl (cA6, 16, .inl (fun _ => 0))), (q7, .inl (cA8, 8, .inl (fun _ => 0))), (q9, .inl (cA10, 3, .inl (fun _ => 0))), (q11, .inl (cA12, 3, .inl (fun _ => 0))), (q13, .inl (cA14, 3, .inl (fun _ => 0))), (q15, .inl (cA16, 3, .inl (fun _ => 0)))] := hD
  refine lv_aload_n hx hb dX9_init_70 rfl (lv_at hl 0 rfl) ?_
  refine lv_iconst (v := 3) hx hb dX9_init_71 (by decide) ?_
  refine va_newa (atype := .int) (ty := .int) (a0 := (3, .inl (fun _ => 0))) hx hb (hts (.arrayClass .int) (by decide +kernel)) rfl hK hP hD hS hA (fun _ => rfl) (by decide) (by decide) (Nat.le_of_ble_eq_true rfl) (Nat.le_of_ble_eq_true rfl) (Nat.le_of_ble_eq_true rfl) dX9_init_72 (fun q17 cA18 H hK hP hD hS => ?_)
  have hP : va_P (dC, dI) vwCl [(h0, .inr (8, [.int 0, .ref q1, .ref q3, .ref q5, .int 0, .int 0, .ref q7, .int 0, .int 0, .int 2, .int 0, .int 0, .int 0, .ref q9, .ref q11, .ref q13, .ref q15, .null, .int 0, .int 0, .int 0, .null, .null, .int 0, .int 0, .int 0, .int 0, .int 0])), (q1, .inl (cA2, 512, .inl (fun _ => 0))), (q3, .inl (cA4, 16, .inl (fun _ => 0))), (q5, .inl (cA6, 16, .inl (fun _ => 0))), (q7, .inl (cA8, 8, .inl (fun _ => 0))), (q9, .inl (cA10, 3, .inl (fun _ => 0))), (q11, .inl (cA12, 3, .inl (fun _ => 0))), (q13, .inl (cA14, 3, .inl (fun _ => 0))), (q15, .inl (cA16, 3, .inl (fun _ => 0))), (q17, .inl (cA18, 3, .inl (fun _ => 0)))] H := hP
  have hD : va_D A [(h0, .inr (8, [.int 0, .ref q1, .ref q3, .ref q5, .int 0, .int 0, .ref q7, .int 0, .int 0, .int 2, .int 0, .int 0, .int 0, .ref q9, .ref q11, .ref q13, .ref q15, .null, .int 0, .int 0, .int 0, .null, .null, .int 0, .int 0, .int 0, .int 0, .int 0])), (q1, .inl (cA2, 512, .inl (fun _ => 0))), (q3, .inl (cA4, 16, .inl (fun _ => 0))), (q5, .inl (cA6, 16, .inl (fun _ => 0))), (q7, .inl (cA8, 8, .inl (fun _ => 0))), (q9, .inl (cA10, 3, .inl (fun _ => 0))), (q11, .inl (cA12, 3, .inl (fun _ => 0))), (q13, .inl (cA14, 3, .inl (fun _ => 0))), (q15, .inl (cA16, 3, .inl (fun _ => 0))), (q17, .inl (cA18, 3, .inl (fun _ => 0)))] := hD
  have hK : va_K (dC, dI) vwCl [(cA2, .int), (cA4, .int), (cA6, .int), (cA8, .int), (cA10, .boolean), (cA12, .boolean), (cA14, .boolean), (cA16, .boolean), (cA18, .int)] s := hK
  refine W.widen (k := 9) (n := 567) (Nat.le_of_ble_eq_true rfl) (Nat.le_of_ble_eq_true rfl) ?_
  refine va_putF (D := (dC, dI)) (ci := 8) (v := .ref q17) (ty := .array .int) (C := RX9) (T := TX9) (N := 28) hx hb hts (by decide +kernel) tyX9 tyX9_ok nmX9 hown hK hP hD hS 0 rfl rfl 17 (by decide) (hts (.fieldLink RX9 39 "UnibusMachineModel" "busy" "[I") (by decide +kernel)) (fun _ h9 => h9) rfl hin rfl (by decide +kernel) rfl rfl (Nat.le_of_ble_eq_true rfl) dX9_init_74 (fun H locs hP hD hS => ?_)
  have hP : va_P (dC, dI) vwCl [(h0, .inr (8, [.int 0, .ref q1, .ref q3, .ref q5, .int 0, .int 0, .ref q7, .int 0, .int 0, .int 2, .int 0, .int 0, .int 0, .ref q9, .ref q11, .ref q13, .ref q15, .ref q17, .int 0, .int 0, .int 0, .null, .null, .int 0, .int 0, .int 0, .int 0, .int 0])), (q1, .inl (cA2, 512, .inl (fun _ => 0))), (q3, .inl (cA4, 16, .inl (fun _ => 0))), (q5, .inl (cA6, 16, .inl (fun _ => 0))), (q7, .inl (cA8, 8, .inl (fun _ => 0))), (q9, .inl (cA10, 3, .inl (fun _ => 0))), (q11, .inl (cA12, 3, .inl (fun _ => 0))), (q13, .inl (cA14, 3, .inl (fun _ => 0))), (q15, .inl (cA16, 3, .inl (fun _ => 0))), (q17, .inl (cA18, 3, .inl (fun _ => 0)))] H := hP
  have hD : va_D A [(h0, .inr (8, [.int 0, .ref q1, .ref q3, .ref q5, .int 0, .int 0, .ref q7, .int 0, .int 0, .int 2, .int 0, .int 0, .int 0, .ref q9, .ref q11, .ref q13, .ref q15, .ref q17, .int 0, .int 0, .int 0, .null, .null, .int 0, .int 0, .int 0, .int 0, .int 0])), (q1, .inl (cA2, 512, .inl (fun _ => 0))), (q3, .inl (cA4, 16, .inl (fun _ => 0))), (q5, .inl (cA6, 16, .inl (fun _ => 0))), (q7, .inl (cA8, 8, .inl (fun _ => 0))), (q9, .inl (cA10, 3, .inl (fun _ => 0))), (q11, .inl (cA12, 3, .inl (fun _ => 0))), (q13, .inl (cA14, 3, .inl (fun _ => 0))), (q15, .inl (cA16, 3, .inl (fun _ => 0))), (q17, .inl (cA18, 3, .inl (fun _ => 0)))] := hD
  refine lv_aload_n hx hb dX9_init_77 rfl (lv_at hl 0 rfl) ?_
  refine lv_bipush (v := 32) hx hb dX9_init_78 (by decide) ?_
  refine va_newa (atype := .int) (ty := .int) (a0 := (32, .inl (fun _ => 0))) hx hb (hts (.arrayClass .int) (by decide +kernel)) rfl hK hP hD hS hA (fun _ => rfl) (by decide) (by decide) (Nat.le_of_ble_eq_true rfl) (Nat.le_of_ble_eq_true rfl) (Nat.le_of_ble_eq_true rfl) dX9_init_80 (fun q19 cA20 H hK hP hD hS => ?_)
  have hP : va_P (dC, dI) vwCl [(h0, .inr (8, [.int 0, .ref q1, .ref q3, .ref q5, .int 0, .int 0, .ref q7, .int 0, .int 0, .int 2, .int 0, .int 0, .int 0, .ref q9, .ref q11, .ref q13, .ref q15, .ref q17, .int 0, .int 0, .int 0, .null, .null, .int 0, .int 0, .int 0, .int 0, .int 0])), (q1, .inl (cA2, 512, .inl (fun _ => 0))), (q3, .inl (cA4, 16, .inl (fun _ => 0))), (q5, .inl (cA6, 16, .inl (fun _ => 0))), (q7, .inl (cA8, 8, .inl (fun _ => 0))), (q9, .inl (cA10, 3, .inl (fun _ => 0))), (q11, .inl (cA12, 3, .inl (fun _ => 0))), (q13, .inl (cA14, 3, .inl (fun _ => 0))), (q15, .inl (cA16, 3, .inl (fun _ => 0))), (q17, .inl (cA18, 3, .inl (fun _ => 0))), (q19, .inl (cA20, 32, .inl (fun _ => 0)))] H := hP
  have hD : va_D A [(h0, .inr (8, [.int 0, .ref q1, .ref q3, .ref q5, .int 0, .int 0, .ref q7, .int 0, .int 0, .int 2, .int 0, .int 0, .int 0, .ref q9, .ref q11, .ref q13, .ref q15, .ref q17, .int 0, .int 0, .int 0, .null, .null, .int 0, .int 0, .int 0, .int 0, .int 0])), (q1, .inl (cA2, 512, .inl (fun _ => 0))), (q3, .inl (cA4, 16, .inl (fun _ => 0))), (q5, .inl (cA6, 16, .inl (fun _ => 0))), (q7, .inl (cA8, 8, .inl (fun _ => 0))), (q9, .inl (cA10, 3, .inl (fun _ => 0))), (q11, .inl (cA12, 3, .inl (fun _ => 0))), (q13, .inl (cA14, 3, .inl (fun _ => 0))), (q15, .inl (cA16, 3, .inl (fun _ => 0))), (q17, .inl (cA18, 3, .inl (fun _ => 0))), (q19, .inl (cA20, 32, .inl (fun _ => 0)))] := hD
  have hK : va_K (dC, dI) vwCl [(cA2, .int), (cA4, .int), (cA6, .int), (cA8, .int), (cA10, .boolean), (cA12, .boolean), (cA14, .boolean), (cA16, .boolean), (cA18, .int), (cA20, .int)] s := hK
  refine W.widen (k := 10) (n := 599) (Nat.le_of_ble_eq_true rfl) (Nat.le_of_ble_eq_true rfl) ?_
  refine va_putF (D := (dC, dI)) (ci := 8) (v := .ref q19) (ty := .array .int) (C := RX9) (T := TX9) (N := 28) hx hb hts (by decide +kernel) tyX9 tyX9_ok nmX9 hown hK hP hD hS 0 rfl rfl 21 (by decide) (hts (.fieldLink RX9 42 "UnibusMachineModel" "paper" "[I") (by decide +kernel)) (fun _ h9 => h9) rfl hin rfl (by decide +kernel) rfl rfl (Nat.le_of_ble_eq_true rfl) dX9_init_82 (fun H locs hP hD hS => ?_)
  have hP : va_P (dC, dI) vwCl [(h0, .inr (8, [.int 0, .ref q1, .ref q3, .ref q5, .int 0, .int 0, .ref q7, .int 0, .int 0, .int 2, .int 0, .int 0, .int 0, .ref q9, .ref q11, .ref q13, .ref q15, .ref q17, .int 0, .int 0, .int 0, .ref q19, .null, .int 0, .int 0, .int 0, .int 0, .int 0])), (q1, .inl (cA2, 512, .inl (fun _ => 0))), (q3, .inl (cA4, 16, .inl (fun _ => 0))), (q5, .inl (cA6, 16, .inl (fun _ => 0))), (q7, .inl (cA8, 8, .inl (fun _ => 0))), (q9, .inl (cA10, 3, .inl (fun _ => 0))), (q11, .inl (cA12, 3, .inl (fun _ => 0))), (q13, .inl (cA14, 3, .inl (fun _ => 0))), (q15, .inl (cA16, 3, .inl (fun _ => 0))), (q17, .inl (cA18, 3, .inl (fun _ => 0))), (q19, .inl (cA20, 32, .inl (fun _ => 0)))] H := hP
  have hD : va_D A [(h0, .inr (8, [.int 0, .ref q1, .ref q3, .ref q5, .int 0, .int 0, .ref q7, .int 0, .int 0, .int 2, .int 0, .int 0, .int 0, .ref q9, .ref q11, .ref q13, .ref q15, .ref q17, .int 0, .int 0, .int 0, .ref q19, .null, .int 0, .int 0, .int 0, .int 0, .int 0])), (q1, .inl (cA2, 512, .inl (fun _ => 0))), (q3, .inl (cA4, 16, .inl (fun _ => 0))), (q5, .inl (cA6, 16, .inl (fun _ => 0))), (q7, .inl (cA8, 8, .inl (fun _ => 0))), (q9, .inl (cA10, 3, .inl (fun _ => 0))), (q11, .inl (cA12, 3, .inl (fun _ => 0))), (q13, .inl (cA14, 3, .inl (fun _ => 0))), (q15, .inl (cA16, 3, .inl (fun _ => 0))), (q17, .inl (cA18, 3, .inl (fun _ => 0))), (q19, .inl (cA20, 32, .inl (fun _ => 0)))] := hD
  refine lv_aload_n hx hb dX9_init_85 rfl (lv_at hl 0 rfl) ?_
  refine lv_sipush (v := 128) hx hb dX9_init_86 (by decide) ?_
  refine va_newa (atype := .int) (ty := .int) (a0 := (128, .inl (fun _ => 0))) hx hb (hts (.arrayClass .int) (by decide +kernel)) rfl hK hP hD hS hA (fun _ => rfl) (by decide) (by decide) (Nat.le_of_ble_eq_true rfl) (Nat.le_of_ble_eq_true rfl) (Nat.le_of_ble_eq_true rfl) dX9_init_89 (fun q21 cA22 H hK hP hD hS => ?_)
  have hP : va_P (dC, dI) vwCl [(h0, .inr (8, [.int 0, .ref q1, .ref q3, .ref q5, .int 0, .int 0, .ref q7, .int 0, .int 0, .int 2, .int 0, .int 0, .int 0, .ref q9, .ref q11, .ref q13, .ref q15, .ref q17, .int 0, .int 0, .int 0, .ref q19, .null, .int 0, .int 0, .int 0, .int 0, .int 0])), (q1, .inl (cA2, 512, .inl (fun _ => 0))), (q3, .inl (cA4, 16, .inl (fun _ => 0))), (q5, .inl (cA6, 16, .inl (fun _ => 0))), (q7, .inl (cA8, 8, .inl (fun _ => 0))), (q9, .inl (cA10, 3, .inl (fun _ => 0))), (q11, .inl (cA12, 3, .inl (fun _ => 0))), (q13, .inl (cA14, 3, .inl (fun _ => 0))), (q15, .inl (cA16, 3, .inl (fun _ => 0))), (q17, .inl (cA18, 3, .inl (fun _ => 0))), (q19, .inl (cA20, 32, .inl (fun _ => 0))), (q21, .inl (cA22, 128, .inl (fun _ => 0)))] H := hP
  have hD : va_D A [(h0, .inr (8, [.int 0, .ref q1, .ref q3, .ref q5, .int 0, .int 0, .ref q7, .int 0, .int 0, .int 2, .int 0, .int 0, .int 0, .ref q9, .ref q11, .ref q13, .ref q15, .ref q17, .int 0, .int 0, .int 0, .ref q19, .null, .int 0, .int 0, .int 0, .int 0, .int 0])), (q1, .inl (cA2, 512, .inl (fun _ => 0))), (q3, .inl (cA4, 16, .inl (fun _ => 0))), (q5, .inl (cA6, 16, .inl (fun _ => 0))), (q7, .inl (cA8, 8, .inl (fun _ => 0))), (q9, .inl (cA10, 3, .inl (fun _ => 0))), (q11, .inl (cA12, 3, .inl (fun _ => 0))), (q13, .inl (cA14, 3, .inl (fun _ => 0))), (q15, .inl (cA16, 3, .inl (fun _ => 0))), (q17, .inl (cA18, 3, .inl (fun _ => 0))), (q19, .inl (cA20, 32, .inl (fun _ => 0))), (q21, .inl (cA22, 128, .inl (fun _ => 0)))] := hD
  have hK : va_K (dC, dI) vwCl [(cA2, .int), (cA4, .int), (cA6, .int), (cA8, .int), (cA10, .boolean), (cA12, .boolean), (cA14, .boolean), (cA16, .boolean), (cA18, .int), (cA20, .int), (cA22, .int)] s := hK
  refine W.widen (k := 11) (n := 727) (Nat.le_of_ble_eq_true rfl) (Nat.le_of_ble_eq_true rfl) ?_
  refine va_putF (D := (dC, dI)) (ci := 8) (v := .ref q21) (ty := .array .int) (C := RX9) (T := TX9) (N := 28) hx hb hts (by decide +kernel) tyX9 tyX9_ok nmX9 hown hK hP hD hS 0 rfl rfl 22 (by decide) (hts (.fieldLink RX9 45 "UnibusMachineModel" "sectors" "[I") (by decide +kernel)) (fun _ h9 => h9) rfl hin rfl (by decide +kernel) rfl rfl (Nat.le_of_ble_eq_true rfl) dX9_init_91 (fun H locs hP hD hS => ?_)
  have hP : va_P (dC, dI) vwCl [(h0, .inr (8, [.int 0, .ref q1, .ref q3, .ref q5, .int 0, .int 0, .ref q7, .int 0, .int 0, .int 2, .int 0, .int 0, .int 0, .ref q9, .ref q11, .ref q13, .ref q15, .ref q17, .int 0, .int 0, .int 0, .ref q19, .ref q21, .int 0, .int 0, .int 0, .int 0, .int 0])), (q1, .inl (cA2, 512, .inl (fun _ => 0))), (q3, .inl (cA4, 16, .inl (fun _ => 0))), (q5, .inl (cA6, 16, .inl (fun _ => 0))), (q7, .inl (cA8, 8, .inl (fun _ => 0))), (q9, .inl (cA10, 3, .inl (fun _ => 0))), (q11, .inl (cA12, 3, .inl (fun _ => 0))), (q13, .inl (cA14, 3, .inl (fun _ => 0))), (q15, .inl (cA16, 3, .inl (fun _ => 0))), (q17, .inl (cA18, 3, .inl (fun _ => 0))), (q19, .inl (cA20, 32, .inl (fun _ => 0))), (q21, .inl (cA22, 128, .inl (fun _ => 0)))] H := hP
  have hD : va_D A [(h0, .inr (8, [.int 0, .ref q1, .ref q3, .ref q5, .int 0, .int 0, .ref q7, .int 0, .int 0, .int 2, .int 0, .int 0, .int 0, .ref q9, .ref q11, .ref q13, .ref q15, .ref q17, .int 0, .int 0, .int 0, .ref q19, .ref q21, .int 0, .int 0, .int 0, .int 0, .int 0])), (q1, .inl (cA2, 512, .inl (fun _ => 0))), (q3, .inl (cA4, 16, .inl (fun _ => 0))), (q5, .inl (cA6, 16, .inl (fun _ => 0))), (q7, .inl (cA8, 8, .inl (fun _ => 0))), (q9, .inl (cA10, 3, .inl (fun _ => 0))), (q11, .inl (cA12, 3, .inl (fun _ => 0))), (q13, .inl (cA14, 3, .inl (fun _ => 0))), (q15, .inl (cA16, 3, .inl (fun _ => 0))), (q17, .inl (cA18, 3, .inl (fun _ => 0))), (q19, .inl (cA20, 32, .inl (fun _ => 0))), (q21, .inl (cA22, 128, .inl (fun _ => 0)))] := hD
  refine lv_aload_n hx hb dX9_init_94 rfl (lv_at hl 0 rfl) ?_
  refine va_get (D := (dC, dI)) (ci := 8) (v := .ref q9) (C := RX9) (T := TX9) (N := 28) hx hb hts (by decide +kernel) hown hK hP 0 rfl rfl 13 (by decide) (hts (.fieldLink RX9 26 "UnibusMachineModel" "ready" "[Z") (by decide +kernel)) (fun _ h9 => h9) rfl dX9_init_95 ?_
  refine lv_iconst (v := 0) hx hb dX9_init_98 (by decide) ?_
  refine lv_iconst (v := 1) hx hb dX9_init_99 (by decide) ?_
  refine va_zast (D := (dC, dI)) hx hb hK hP hD hS 5 4 rfl rfl (vp_in_iff.mpr (by decide)) dX9_init_100 (fun H locs hP hD hS => ?_)
  have hP : va_P (dC, dI) vwCl [(h0, .inr (8, [.int 0, .ref q1, .ref q3, .ref q5, .int 0, .int 0, .ref q7, .int 0, .int 0, .int 2, .int 0, .int 0, .int 0, .ref q9, .ref q11, .ref q13, .ref q15, .ref q17, .int 0, .int 0, .int 0, .ref q19, .ref q21, .int 0, .int 0, .int 0, .int 0, .int 0])), (q1, .inl (cA2, 512, .inl (fun _ => 0))), (q3, .inl (cA4, 16, .inl (fun _ => 0))), (q5, .inl (cA6, 16, .inl (fun _ => 0))), (q7, .inl (cA8, 8, .inl (fun _ => 0))), (q9, .inl (cA10, 3, .inl (upd (fun _ => 0) (0 : Int32).toNatClampNeg (vp_nar .boolean 1)))), (q11, .inl (cA12, 3, .inl (fun _ => 0))), (q13, .inl (cA14, 3, .inl (fun _ => 0))), (q15, .inl (cA16, 3, .inl (fun _ => 0))), (q17, .inl (cA18, 3, .inl (fun _ => 0))), (q19, .inl (cA20, 32, .inl (fun _ => 0))), (q21, .inl (cA22, 128, .inl (fun _ => 0)))] H := hP
  have hD : va_D A [(h0, .inr (8, [.int 0, .ref q1, .ref q3, .ref q5, .int 0, .int 0, .ref q7, .int 0, .int 0, .int 2, .int 0, .int 0, .int 0, .ref q9, .ref q11, .ref q13, .ref q15, .ref q17, .int 0, .int 0, .int 0, .ref q19, .ref q21, .int 0, .int 0, .int 0, .int 0, .int 0])), (q1, .inl (cA2, 512, .inl (fun _ => 0))), (q3, .inl (cA4, 16, .inl (fun _ => 0))), (q5, .inl (cA6, 16, .inl (fun _ => 0))), (q7, .inl (cA8, 8, .inl (fun _ => 0))), (q9, .inl (cA10, 3, .inl (upd (fun _ => 0) (0 : Int32).toNatClampNeg (vp_nar .boolean 1)))), (q11, .inl (cA12, 3, .inl (fun _ => 0))), (q13, .inl (cA14, 3, .inl (fun _ => 0))), (q15, .inl (cA16, 3, .inl (fun _ => 0))), (q17, .inl (cA18, 3, .inl (fun _ => 0))), (q19, .inl (cA20, 32, .inl (fun _ => 0))), (q21, .inl (cA22, 128, .inl (fun _ => 0)))] := hD
  refine lv_aload_n hx hb dX9_init_101 rfl (lv_at hl 0 rfl) ?_
  refine va_get (D := (dC, dI)) (ci := 8) (v := .ref q9) (C := RX9) (T := TX9) (N := 28) hx hb hts (by decide +kernel) hown hK hP 0 rfl rfl 13 (by decide) (hts (.fieldLink RX9 26 "UnibusMachineModel" "ready" "[Z") (by decide +kernel)) (fun _ h9 => h9) rfl dX9_init_102 ?_
  refine lv_iconst (v := 2) hx hb dX9_init_105 (by decide) ?_
  refine lv_iconst (v := 1) hx hb dX9_init_106 (by decide) ?_
  refine va_zast (D := (dC, dI)) hx hb hK hP hD hS 5 4 rfl rfl (vp_in_iff.mpr (by decide)) dX9_init_107 (fun H locs hP hD hS => ?_)
  have hP : va_P (dC, dI) vwCl [(h0, .inr (8, [.int 0, .ref q1, .ref q3, .ref q5, .int 0, .int 0, .ref q7, .int 0, .int 0, .int 2, .int 0, .int 0, .int 0, .ref q9, .ref q11, .ref q13, .ref q15, .ref q17, .int 0, .int 0, .int 0, .ref q19, .ref q21, .int 0, .int 0, .int 0, .int 0, .int 0])), (q1, .inl (cA2, 512, .inl (fun _ => 0))), (q3, .inl (cA4, 16, .inl (fun _ => 0))), (q5, .inl (cA6, 16, .inl (fun _ => 0))), (q7, .inl (cA8, 8, .inl (fun _ => 0))), (q9, .inl (cA10, 3, .inl (upd (upd (fun _ => 0) (0 : Int32).toNatClampNeg (vp_nar .boolean 1)) (2 : Int32).toNatClampNeg (vp_nar .boolean 1)))), (q11, .inl (cA12, 3, .inl (fun _ => 0))), (q13, .inl (cA14, 3, .inl (fun _ => 0))), (q15, .inl (cA16, 3, .inl (fun _ => 0))), (q17, .inl (cA18, 3, .inl (fun _ => 0))), (q19, .inl (cA20, 32, .inl (fun _ => 0))), (q21, .inl (cA22, 128, .inl (fun _ => 0)))] H := hP
  have hD : va_D A [(h0, .inr (8, [.int 0, .ref q1, .ref q3, .ref q5, .int 0, .int 0, .ref q7, .int 0, .int 0, .int 2, .int 0, .int 0, .int 0, .ref q9, .ref q11, .ref q13, .ref q15, .ref q17, .int 0, .int 0, .int 0, .ref q19, .ref q21, .int 0, .int 0, .int 0, .int 0, .int 0])), (q1, .inl (cA2, 512, .inl (fun _ => 0))), (q3, .inl (cA4, 16, .inl (fun _ => 0))), (q5, .inl (cA6, 16, .inl (fun _ => 0))), (q7, .inl (cA8, 8, .inl (fun _ => 0))), (q9, .inl (cA10, 3, .inl (upd (upd (fun _ => 0) (0 : Int32).toNatClampNeg (vp_nar .boolean 1)) (2 : Int32).toNatClampNeg (vp_nar .boolean 1)))), (q11, .inl (cA12, 3, .inl (fun _ => 0))), (q13, .inl (cA14, 3, .inl (fun _ => 0))), (q15, .inl (cA16, 3, .inl (fun _ => 0))), (q17, .inl (cA18, 3, .inl (fun _ => 0))), (q19, .inl (cA20, 32, .inl (fun _ => 0))), (q21, .inl (cA22, 128, .inl (fun _ => 0)))] := hD
  have hP9 := hP.sub (ws' := [(h0, .inr (8, [.int 0, .ref q1, .ref q3, .ref q5, .int 0, .int 0, .ref q7, .int 0, .int 0, .int 2, .int 0, .int 0, .int 0, .ref q9, .ref q11, .ref q13, .ref q15, .ref q17, .int 0, .int 0, .int 0, .ref q19, .ref q21, .int 0, .int 0, .int 0, .int 0, .int 0])), (q1, .inl (cA2, 512, .inl (fun _ => 0))), (q3, .inl (cA4, 16, .inl (fun _ => 0))), (q5, .inl (cA6, 16, .inl (fun _ => 0))), (q7, .inl (cA8, 8, .inl (fun _ => 0))), (q9, .inl (cA10, 3, .inl (upd (upd (fun _ => 0) (0 : Int32).toNatClampNeg (vp_nar .boolean 1)) (2 : Int32).toNatClampNeg (vp_nar .boolean 1)))), (q11, .inl (cA12, 3, .inl (fun _ => 0))), (q13, .inl (cA14, 3, .inl (fun _ => 0))), (q15, .inl (cA16, 3, .inl (fun _ => 0))), (q17, .inl (cA18, 3, .inl (fun _ => 0))), (q19, .inl (cA20, 32, .inl (fun _ => 0))), (q21, .inl (cA22, 128, .inl (fun _ => 0)))]) [0, 1, 2, 3, 4, 5, 6, 7, 8, 9, 10, 11] rfl
  have hD9 := hD.sub (ws' := [(h0, .inr (8, [.int 0, .ref q1, .ref q3, .ref q5, .int 0, .int 0, .ref q7, .int 0, .int 0, .int 2, .int 0, .int 0, .int 0, .ref q9, .ref q11, .ref q13, .ref q15, .ref q17, .int 0, .int 0, .int 0, .ref q19, .ref q21, .int 0, .int 0, .int 0, .int 0, .int 0])), (q1, .inl (cA2, 512, .inl (fun _ => 0))), (q3, .inl (cA4, 16, .inl (fun _ => 0))), (q5, .inl (cA6, 16, .inl (fun _ => 0))), (q7, .inl (cA8, 8, .inl (fun _ => 0))), (q9, .inl (cA10, 3, .inl (upd (upd (fun _ => 0) (0 : Int32).toNatClampNeg (vp_nar .boolean 1)) (2 : Int32).toNatClampNeg (vp_nar .boolean 1)))), (q11, .inl (cA12, 3, .inl (fun _ => 0))), (q13, .inl (cA14, 3, .inl (fun _ => 0))), (q15, .inl (cA16, 3, .inl (fun _ => 0))), (q17, .inl (cA18, 3, .inl (fun _ => 0))), (q19, .inl (cA20, 32, .inl (fun _ => 0))), (q21, .inl (cA22, 128, .inl (fun _ => 0)))]) [0, 1, 2, 3, 4, 5, 6, 7, 8, 9, 10, 11] (by decide) rfl
  have hK9 := hK.sub (tys' := [(cA2, .int), (cA4, .int), (cA6, .int), (cA8, .int), (cA10, .boolean), (cA12, .boolean), (cA14, .boolean), (cA16, .boolean), (cA18, .int), (cA20, .int), (cA22, .int)]) [0, 1, 2, 3, 4, 5, 6, 7, 8, 9, 10] rfl
  exact W.vret hx hb hr (fun t ht hW => ⟨⟨(), rfl, trivial, q1, q3, q5, q7, q9, q11, q13, q15, q17, q19, q21, cA2, cA4, cA6, cA8, cA10, cA12, cA14, cA16, cA18, cA20, cA22, by rw [ht]; exact hP9, va_K.moved hW.alike hK9, hD9⟩, hS.F ht⟩) hS.2.2 dX9_init_108
