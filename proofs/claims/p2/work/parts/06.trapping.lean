set_option maxHeartbeats 4000000 in
set_option maxRecDepth 100000 in
theorem c_stop (l : Launch) (dC : Nat → ClassId) (dI : Nat → Nat → Nat) (h0 : Nat) (ar : Nat) (oB : Nat) (oS : Nat) (ve : Int32) (sz : Nat) (hlt : l.stackTraces = false) : vx_Met l yX6_stop wsX6_stop ({ frames := 6, cells := 1, slots := 6, locals := 82 } : Room) (va_Pc [.ref h0, .int 4] (fun U => U.heap.size = sz ∧ va_P (dC, dI) vwCl [(h0, .inr (5, [.ref ar, .ref oB, .ref oS, .int 0, .int 0, .int 0, .int ve, .int 0, .int 0]))] U.heap ∧ va_K (dC, dI) vwCl [] U ∧ va_D (fun _ => True) [(h0, .inr (5, [.ref ar, .ref oB, .ref oS, .int 0, .int 0, .int 0, .int ve, .int 0, .int 0]))] ∧ vx_Zq Bundle.tN "UNASSIGNED_STACK" Bundle.steD (va_A [(h0, .inr (5, [.ref ar, .ref oB, .ref oS, .int 0, .int 0, .int 0, .int ve, .int 0, .int 0]))] sz) U U.heap ∧ vx_Zq Bundle.tN "SUPPRESSED_SENTINEL" Bundle.listD (va_A [(h0, .inr (5, [.ref ar, .ref oB, .ref oS, .int 0, .int 0, .int 0, .int ve, .int 0, .int 0]))] sz) U U.heap ∧ va_Nw (.declares (Bundle.init0 "java/lang/RuntimeException")) U ∧ va_Nw (.declares (Bundle.init0 "java/lang/Exception")) U ∧ va_Nw (.declares (Bundle.init0 Bundle.tN)) U ∧ va_Nw (.castable "java/lang/UnsupportedOperationException" "java/lang/UnsupportedOperationException") U)) (va_Qv (fun (u : Unit) => False) (fun (u : Unit) (t : State) => va_P (dC, dI) vwCl [(h0, .inr (5, [.ref ar, .ref oB, .ref oS, .int 0, .int 0, .int 0, .int ve, .int 0, .int 0]))] t.heap ∧ va_K (dC, dI) vwCl [] t ∧ va_D (va_A [(h0, .inr (5, [.ref ar, .ref oB, .ref oS, .int 0, .int 0, .int 0, .int ve, .int 0, .int 0]))] sz) [(h0, .inr (5, [.ref ar, .ref oB, .ref oS, .int 0, .int 0, .int 0, .int ve, .int 0, .int 0]))]) (va_A [(h0, .inr (5, [.ref ar, .ref oB, .ref oS, .int 0, .int 0, .int 0, .int ve, .int 0, .int 0]))] sz)) (vx_X (fun _ : Unit => True) (fun (E : String) (_ : Unit) (t : State) => E = "java/lang/UnsupportedOperationException" ∧ va_P (dC, dI) vwCl [(h0, .inr (5, [.ref ar, .ref oB, .ref oS, .int 0, .int 0, .int 0, .int 4, .int 0, .int 0]))] t.heap ∧ va_K (dC, dI) vwCl [] t ∧ va_D (va_A [(h0, .inr (5, [.ref ar, .ref oB, .ref oS, .int 0, .int 0, .int 0, .int ve, .int 0, .int 0]))] sz) [(h0, .inr (5, [.ref ar, .ref oB, .ref oS, .int 0, .int 0, .int 0, .int 4, .int 0, .int 0]))] ∧ sz + 1 ≤ t.heap.size) (va_A [(h0, .inr (5, [.ref ar, .ref oB, .ref oS, .int 0, .int 0, .int 0, .int ve, .int 0, .int 0]))] sz)) 1 6 (va_A [(h0, .inr (5, [.ref ar, .ref oB, .ref oS, .int 0, .int 0, .int 0, .int ve, .int 0, .int 0]))] sz) := by
  refine vx_ofW (cc := cX6_stop) (maxL := 2) (ret := none) (by decide) rfl ?_
  intro p e s m args below meth c s₁ B hml htab hv
  obtain ⟨rfl, hsz, hP, hK, hD0, hZU, hZN, hd1, hd2, hd3, hcU⟩ := hv
  have hx := B.exec
  have hb := B.bytes
  have hr := B.returns
  have hts := atoms_spec (ws := wsX6_stop) B.pre
  have hown : s.vm.findClass RX6 = some m.cls := findClass_of_methodNamed B.named
  have hlocks := B.notSynchronized
  have hD := hD0.self (sz := sz)
  generalize hAe : va_A [(h0, .inr (5, [.ref ar, .ref oB, .ref oS, .int 0, .int 0, .int 0, .int ve, .int 0, .int 0]))] sz = A at hD hZU hZN ⊢
  have hA : ∀ q : Nat, s.heap.size ≤ q → A q := fun q h => by rw [← hAe]; exact Or.inr (by omega)
  have hS0 : ∀ G : Heap, s.heap = G → va_S A s.heap G [] := fun G h => by subst h; exact va_S.rf
  generalize hHe : s.heap = H at hP ⊢
  have hS := hS0 H hHe
  have hP : va_P (dC, dI) vwCl [(h0, .inr (5, [.ref ar, .ref oB, .ref oS, .int 0, .int 0, .int 0, .int ve, .int 0, .int 0]))] H := hP
  have hD : va_D A [(h0, .inr (5, [.ref ar, .ref oB, .ref oS, .int 0, .int 0, .int 0, .int ve, .int 0, .int 0]))] := hD
  have hK : va_K (dC, dI) vwCl [] s := hK
  have hl := lv_entry ([.ref h0, .int 4]) (n := 2) (Nat.le_of_ble_eq_true rfl)
  rw [lg_entry_eq]
  generalize (lg_sl ([.ref h0, .int 4]) ++ List.replicate (2 - (lg_sl ([.ref h0, .int 4])).length) Slot.unset).toArray = ls at hl ⊢
  have hl : lv_has ls 2 [(0, .ref h0), (1, .int 4)] := hl
  refine lv_aload_n hx hb dX6_stop_0 rfl (lv_at hl 0 rfl) ?_
  refine lv_iload_n hx hb dX6_stop_1 rfl (lv_at hl 1 rfl) ?_
  refine va_put (D := (dC, dI)) (ci := 5) (v := .int 4) (ty := .int) (C := RX6) (T := TX6) (N := 9) hx hb hts (by decide +kernel) tyX6 tyX6_ok nmX6 hown hK hP hD hS 0 rfl rfl 6 (by decide) (hts (.fieldLink RX6 24 "UnibusMachine$Processor" "vector" "I") (by decide +kernel)) (fun _ h9 => h9) rfl (by decide +kernel) rfl rfl (Nat.le_of_ble_eq_true rfl) dX6_stop_2 (fun H locs hP hD hS => ?_)
  have hP : va_P (dC, dI) vwCl [(h0, .inr (5, [.ref ar, .ref oB, .ref oS, .int 0, .int 0, .int 0, .int 4, .int 0, .int 0]))] H := hP
  have hD : va_D A [(h0, .inr (5, [.ref ar, .ref oB, .ref oS, .int 0, .int 0, .int 0, .int 4, .int 0, .int 0]))] := hD
  exact gr_throw0 (names := ["java/lang/RuntimeException", "java/lang/Exception"]) (cls := "java/lang/UnsupportedOperationException") (ik := 65) (ic := 111) (A := A) hx hb hlt hown (by decide) (by decide) (hts (.classLink RX6 65 "java/lang/UnsupportedOperationException") (by decide +kernel)) (hts (.initialized "java/lang/UnsupportedOperationException") (by decide +kernel)) (vx_hat (fun w h => hts w (List.mem_cons_of_mem _ (List.mem_append_right _ h))) (by decide +kernel) (vx_c (va_Nw.use rfl hcU) (vx_c (va_Nw.use rfl hd1) (vx_c (va_Nw.use rfl hd2) (vx_c (va_Nw.use rfl hd3) vx_n))))) (by decide +kernel) hZU hZN hS (by rw [hml]; exact hl.1) dX6_stop_5 dX6_stop_8 dX6_stop_9 dX6_stop_12 (fun x h => (htab x h).elim) (Nat.le_of_ble_eq_true rfl) (Nat.le_of_ble_eq_true rfl) (Nat.le_of_ble_eq_true rfl) (Nat.le_of_ble_eq_true rfl) hlocks (fun t hal hz hk => ⟨(), trivial, ⟨rfl, hP.kept (fun k q h => hk q.1 (hP k q h).lt), va_K.moved hal hK, hD, by have h9 := hS.1; omega⟩, Nat.le_trans hS.1 (Nat.le_of_succ_le hz), fun q h1 h2 => (hk q (Nat.lt_of_lt_of_le h1 hS.1)).trans (hS.2.1 q h1 h2)⟩) hS.2.2 (Nat.le_of_ble_eq_true rfl) (Nat.le_of_ble_eq_true rfl)
set_option maxHeartbeats 4000000 in
set_option maxRecDepth 100000 in
theorem c_mode (l : Launch) (dC : Nat → ClassId) (dI : Nat → Nat → Nat) (h0 : Nat) (ar : Nat) (oB : Nat) (oS : Nat) (ve : Int32) (sz : Nat) : Met l yX6_mode wsX6_mode ({ frames := 0, cells := 0, slots := 0, locals := 0 } : Room) (va_Pc [.ref h0] (fun U => U.heap.size = sz ∧ va_P (dC, dI) vwCl [(h0, .inr (5, [.ref ar, .ref oB, .ref oS, .int 0, .int 0, .int 0, .int ve, .int 0, .int 0])), (oS, .inr (6, [.int 224, .int (-1)]))] U.heap ∧ va_K (dC, dI) vwCl [] U ∧ va_D (fun _ => True) [(h0, .inr (5, [.ref ar, .ref oB, .ref oS, .int 0, .int 0, .int 0, .int ve, .int 0, .int 0])), (oS, .inr (6, [.int 224, .int (-1)]))])) (va_Qi (fun (r : Int32) (u : Unit) => (0 = r)) (fun (u : Unit) (t : State) => va_P (dC, dI) vwCl [(h0, .inr (5, [.ref ar, .ref oB, .ref oS, .int 0, .int 0, .int 0, .int ve, .int 0, .int 0])), (oS, .inr (6, [.int 224, .int (-1)]))] t.heap ∧ va_K (dC, dI) vwCl [] t ∧ va_D (va_A [(h0, .inr (5, [.ref ar, .ref oB, .ref oS, .int 0, .int 0, .int 0, .int ve, .int 0, .int 0])), (oS, .inr (6, [.int 224, .int (-1)]))] sz) [(h0, .inr (5, [.ref ar, .ref oB, .ref oS, .int 0, .int 0, .int 0, .int ve, .int 0, .int 0])), (oS, .inr (6, [.int 224, .int (-1)]))]) (va_A [(h0, .inr (5, [.ref ar, .ref oB, .ref oS, .int 0, .int 0, .int 0, .int ve, .int 0, .int 0])), (oS, .inr (6, [.int 224, .int (-1)]))] sz)) 0 0 (va_A [(h0, .inr (5, [.ref ar, .ref oB, .ref oS, .int 0, .int 0, .int 0, .int ve, .int 0, .int 0])), (oS, .inr (6, [.int 224, .int (-1)]))] sz) := by
  refine Met.ofW (cc := cX6_mode) (maxL := 1) (ret := (some .int)) (by decide) rfl ?_
  intro p e s m args below meth c s₁ B hml hv
  obtain ⟨rfl, hsz, hP, hK, hD0⟩ := hv
  have hx := B.exec
  have hb := B.bytes
  have hr := B.returns
  have hts := atoms_spec (ws := wsX6_mode) B.pre
  have hown : s.vm.findClass RX6 = some m.cls := findClass_of_methodNamed B.named
  have hlocks := B.notSynchronized
  have hD := hD0.self (sz := sz)
  generalize hAe : va_A [(h0, .inr (5, [.ref ar, .ref oB, .ref oS, .int 0, .int 0, .int 0, .int ve, .int 0, .int 0])), (oS, .inr (6, [.int 224, .int (-1)]))] sz = A at hD ⊢
  have hA : ∀ q : Nat, s.heap.size ≤ q → A q := fun q h => by rw [← hAe]; exact Or.inr (by omega)
  have hS0 : ∀ G : Heap, s.heap = G → va_S A s.heap G [] := fun G h => by subst h; exact va_S.rf
  generalize hHe : s.heap = H at hP ⊢
  have hS := hS0 H hHe
  have hP : va_P (dC, dI) vwCl [(h0, .inr (5, [.ref ar, .ref oB, .ref oS, .int 0, .int 0, .int 0, .int ve, .int 0, .int 0])), (oS, .inr (6, [.int 224, .int (-1)]))] H := hP
  have hD : va_D A [(h0, .inr (5, [.ref ar, .ref oB, .ref oS, .int 0, .int 0, .int 0, .int ve, .int 0, .int 0])), (oS, .inr (6, [.int 224, .int (-1)]))] := hD
  have hK : va_K (dC, dI) vwCl [] s := hK
  have hl := lv_entry ([.ref h0]) (n := 1) (Nat.le_of_ble_eq_true rfl)
  rw [lg_entry_eq]
  generalize (lg_sl ([.ref h0]) ++ List.replicate (1 - (lg_sl ([.ref h0])).length) Slot.unset).toArray = ls at hl ⊢
  have hl : lv_has ls 1 [(0, .ref h0)] := hl
  refine lv_aload_n hx hb dX6_mode_0 rfl (lv_at hl 0 rfl) ?_
  refine va_get (D := (dC, dI)) (ci := 5) (v := .ref oS) (C := RX6) (T := TX6) (N := 9) hx hb hts (by decide +kernel) hown hK hP 0 rfl rfl 2 (by decide) (hts (.fieldLink RX6 43 "UnibusMachine$Processor" "status" "LUnibusMachine$Status;") (by decide +kernel)) (fun _ h9 => h9) rfl dX6_mode_1 ?_
  refine va_get (D := (dC, dI)) (ci := 6) (v := .int 224) (C := RX7) (T := TX7) (N := 2) hx hb hts (by decide +kernel) hown hK hP 1 rfl rfl 0 (by decide) (hts (.fieldLink RX6 44 "UnibusMachine$Status" "now" "I") (by decide +kernel)) (fun _ h9 => h9) rfl dX6_mode_4 ?_
  refine lv_bipush (v := 14) hx hb dX6_mode_7 (by decide) ?_
  refine lv_ishr hx hb dX6_mode_9 ?_
  refine lv_topi (fun y1 ey1 => ?_)
  obtain rfl : y1 = 0 := by rw [ey1]; decide
  refine lv_iconst (v := 1) hx hb dX6_mode_10 (by decide) ?_
  refine lv_iand hx hb dX6_mode_11 ?_
  refine lv_topi (fun y2 ey2 => ?_)
  obtain rfl : y2 = 0 := by rw [ey2]; decide
  have hP9 := hP.sub (ws' := [(h0, .inr (5, [.ref ar, .ref oB, .ref oS, .int 0, .int 0, .int 0, .int ve, .int 0, .int 0])), (oS, .inr (6, [.int 224, .int (-1)]))]) [0, 1] rfl
  have hD9 := hD.sub (ws' := [(h0, .inr (5, [.ref ar, .ref oB, .ref oS, .int 0, .int 0, .int 0, .int ve, .int 0, .int 0])), (oS, .inr (6, [.int 224, .int (-1)]))]) [0, 1] (by decide) rfl
  have hK9 := hK.sub (tys' := []) [] rfl
  exact W.iret (v := 0) hx hb hr (fun t ht hW => ⟨⟨0, (), rfl, rfl, by rw [ht]; exact hP9, va_K.moved hW.alike hK9, hD9⟩, hS.F ht⟩) hS.2.2 dX6_mode_12
set_option maxHeartbeats 4000000 in
set_option maxRecDepth 100000 in
theorem c_readOdd (l : Launch) (dC : Nat → ClassId) (dI : Nat → Nat → Nat) (h0 : Nat) (ar : Nat) (oB : Nat) (oS : Nat) (ve : Int32) (sz : Nat) (hlt : l.stackTraces = false) : vx_Met l yX6_readWord wsX6_readWord ({ frames := 7, cells := 1, slots := 6, locals := 103 } : Room) (va_Pc [.ref h0, .int 0, .int 1] (fun U => U.heap.size = sz ∧ va_P (dC, dI) vwCl [(h0, .inr (5, [.ref ar, .ref oB, .ref oS, .int 0, .int 0, .int 0, .int ve, .int 0, .int 0]))] U.heap ∧ va_K (dC, dI) vwCl [] U ∧ va_D (fun _ => True) [(h0, .inr (5, [.ref ar, .ref oB, .ref oS, .int 0, .int 0, .int 0, .int ve, .int 0, .int 0]))] ∧ vx_Zq Bundle.tN "UNASSIGNED_STACK" Bundle.steD (va_A [(h0, .inr (5, [.ref ar, .ref oB, .ref oS, .int 0, .int 0, .int 0, .int ve, .int 0, .int 0]))] sz) U U.heap ∧ vx_Zq Bundle.tN "SUPPRESSED_SENTINEL" Bundle.listD (va_A [(h0, .inr (5, [.ref ar, .ref oB, .ref oS, .int 0, .int 0, .int 0, .int ve, .int 0, .int 0]))] sz) U U.heap ∧ va_Nw (.declares (Bundle.init0 "java/lang/RuntimeException")) U ∧ va_Nw (.declares (Bundle.init0 "java/lang/Exception")) U ∧ va_Nw (.declares (Bundle.init0 Bundle.tN)) U ∧ va_Nw (.castable "java/lang/UnsupportedOperationException" "java/lang/UnsupportedOperationException") U)) (va_Qi (fun (r : Int32) (u : Unit) => False) (fun (u : Unit) (t : State) => va_P (dC, dI) vwCl [(h0, .inr (5, [.ref ar, .ref oB, .ref oS, .int 0, .int 0, .int 0, .int ve, .int 0, .int 0]))] t.heap ∧ va_K (dC, dI) vwCl [] t ∧ va_D (va_A [(h0, .inr (5, [.ref ar, .ref oB, .ref oS, .int 0, .int 0, .int 0, .int ve, .int 0, .int 0]))] sz) [(h0, .inr (5, [.ref ar, .ref oB, .ref oS, .int 0, .int 0, .int 0, .int ve, .int 0, .int 0]))]) (va_A [(h0, .inr (5, [.ref ar, .ref oB, .ref oS, .int 0, .int 0, .int 0, .int ve, .int 0, .int 0]))] sz)) (vx_X (fun _ : Unit => True) (fun (E : String) (_ : Unit) (t : State) => E = "java/lang/UnsupportedOperationException" ∧ va_P (dC, dI) vwCl [(h0, .inr (5, [.ref ar, .ref oB, .ref oS, .int 0, .int 0, .int 0, .int 4, .int 0, .int 0]))] t.heap ∧ va_K (dC, dI) vwCl [] t ∧ va_D (va_A [(h0, .inr (5, [.ref ar, .ref oB, .ref oS, .int 0, .int 0, .int 0, .int ve, .int 0, .int 0]))] sz) [(h0, .inr (5, [.ref ar, .ref oB, .ref oS, .int 0, .int 0, .int 0, .int 4, .int 0, .int 0]))] ∧ sz + 1 ≤ t.heap.size) (va_A [(h0, .inr (5, [.ref ar, .ref oB, .ref oS, .int 0, .int 0, .int 0, .int ve, .int 0, .int 0]))] sz)) 1 6 (va_A [(h0, .inr (5, [.ref ar, .ref oB, .ref oS, .int 0, .int 0, .int 0, .int ve, .int 0, .int 0]))] sz) := by
  refine vx_ofW (cc := cX6_readWord) (maxL := 4) (ret := (some .int)) (by decide) rfl ?_
  intro p e s m args below meth c s₁ B hml htab hv
  obtain ⟨rfl, hsz, hP, hK, hD0, hZU, hZN, hd1, hd2, hd3, hcU⟩ := hv
  have hx := B.exec
  have hb := B.bytes
  have hr := B.returns
  have hts := atoms_spec (ws := wsX6_readWord) B.pre
  have hown : s.vm.findClass RX6 = some m.cls := findClass_of_methodNamed B.named
  have hlocks := B.notSynchronized
  have hD := hD0.self (sz := sz)
  generalize hAe : va_A [(h0, .inr (5, [.ref ar, .ref oB, .ref oS, .int 0, .int 0, .int 0, .int ve, .int 0, .int 0]))] sz = A at hD hZU hZN ⊢
  have hA : ∀ q : Nat, s.heap.size ≤ q → A q := fun q h => by rw [← hAe]; exact Or.inr (by omega)
  have hS0 : ∀ G : Heap, s.heap = G → va_S A s.heap G [] := fun G h => by subst h; exact va_S.rf
  generalize hHe : s.heap = H at hP ⊢
  have hS := hS0 H hHe
  have hP : va_P (dC, dI) vwCl [(h0, .inr (5, [.ref ar, .ref oB, .ref oS, .int 0, .int 0, .int 0, .int ve, .int 0, .int 0]))] H := hP
  have hD : va_D A [(h0, .inr (5, [.ref ar, .ref oB, .ref oS, .int 0, .int 0, .int 0, .int ve, .int 0, .int 0]))] := hD
  have hK : va_K (dC, dI) vwCl [] s := hK
  have hl := lv_entry ([.ref h0, .int 0, .int 1]) (n := 4) (Nat.le_of_ble_eq_true rfl)
  rw [lg_entry_eq]
  generalize (lg_sl ([.ref h0, .int 0, .int 1]) ++ List.replicate (4 - (lg_sl ([.ref h0, .int 0, .int 1])).length) Slot.unset).toArray = ls at hl ⊢
  have hl : lv_has ls 4 [(0, .ref h0), (1, .int 0), (2, .int 1)] := hl
  refine lv_iload_n hx hb dX6_readWord_0 rfl (lv_at hl 2 rfl) ?_
  refine lv_iconst (v := 1) hx hb dX6_readWord_1 (by decide) ?_
  refine lv_iand hx hb dX6_readWord_2 ?_
  refine lv_topi (fun y1 ey1 => ?_)
  obtain rfl : y1 = 1 := by rw [ey1]; decide
  refine lv_if_eq (tgt := 11) hx hb dX6_readWord_3 (by decide) (fun c2 => ?_) (fun c2 => ?_)
  · exact absurd c2 (by decide)
  · skip
    refine lv_aload_n hx hb dX6_readWord_6 rfl (lv_at hl 0 rfl) ?_
    refine lv_iconst (v := 4) hx hb dX6_readWord_7 (by decide) ?_
    have hPc := hP.sub (ws' := [(h0, .inr (5, [.ref ar, .ref oB, .ref oS, .int 0, .int 0, .int 0, .int ve, .int 0, .int 0]))]) [0] rfl
    have hDc := hD.sub (ws' := [(h0, .inr (5, [.ref ar, .ref oB, .ref oS, .int 0, .int 0, .int 0, .int ve, .int 0, .int 0]))]) [0] (by decide) rfl
    have hKc := hK.sub (tys' := []) [] rfl
    have hFc := va_free (wc := [(h0, .inr (5, [.ref ar, .ref oB, .ref oS, .int 0, .int 0, .int 0, .int ve, .int 0, .int 0]))]) hD hS hA [0] rfl
    have hSz := hS.1
    refine vx_callv (vx_runV (As := [.int 4]) (rest := []) ⟨hx, hb, hml, hown, hts⟩ (c_stop l dC dI h0 ar oB oS ve H.size hlt) (cwV 1 hts gX6_readWord_X6_stop rfl rfl rfl (by decide +kernel) ⟨Nat.le_of_ble_eq_true rfl, Nat.le_of_ble_eq_true rfl⟩) ⟨fun a U g mk q => by obtain ⟨q0, q1, qP, qK, qD, e0, e1, e2, e3, e4, e5⟩ := q; exact ⟨q0, q1, qP, va_K.moved (u := U) (U := U.calling g mk a) (Vm.Alike.refl U.vm) qK, qD, vx_Zq.moved (u := U) (U := U.calling g mk a) (Vm.Alike.refl U.vm) e0, vx_Zq.moved (u := U) (U := U.calling g mk a) (Vm.Alike.refl U.vm) e1, va_Nw.same (U := U.calling g mk a) rfl rfl e2, va_Nw.same (U := U.calling g mk a) rfl rfl e3, va_Nw.same (U := U.calling g mk a) rfl rfl e4, va_Nw.same (U := U.calling g mk a) rfl rfl e5⟩, va_recv hKc hPc (ci := 5) (q0 := 0) rfl rfl, fun U hU hW => ⟨rfl, by rw [hU], by rw [hU]; exact hPc, va_K.moved hW.alike hKc, hDc.weaken (fun _ _ _ _ => trivial), by rw [hU]; exact vx_Zq.moved hW.alike (vx_Zq.narrow (vx_Zq.kept hZU hS.2.1) hFc), by rw [hU]; exact vx_Zq.moved hW.alike (vx_Zq.narrow (vx_Zq.kept hZN hS.2.1) hFc), va_Nw.warmD hW hd1, va_Nw.warmD hW hd2, va_Nw.warmD hW hd3, va_Nw.warmC hW hcU⟩⟩ rfl rfl hl.1 rfl (lv_room (Nat.le_of_ble_eq_true rfl)) dX6_readWord_8 ⟨Nat.le_of_ble_eq_true rfl, Nat.le_of_ble_eq_true rfl⟩) hS (fun q _ h => hFc q h) hFc (fun q _ h => hFc q h) (fun E9 ce9 q9 u t H1 locs ht hvm hpx hBX hz1 hk1 hS hce hcv hcl => ?_) (fun u4 t H1 locs ht hvm hw hB hz1 hk1 hS => ?_)
    · skip
      obtain ⟨rfl, hP1, hK1, hD1, hg1⟩ := hBX
      rw [ht] at hP1 hg1
      have hK1 := va_K.moved hvm.symm hK1
      obtain ⟨hP, hD⟩ := va_join (wr := []) (w1 := [(h0, .inr (5, [.ref ar, .ref oB, .ref oS, .int 0, .int 0, .int 0, .int 4, .int 0, .int 0]))]) hP hD [0] [] rfl rfl (by decide) (by decide) hk1 hFc hP1 hD1
      have hK := (hK.sub (tys' := []) [] rfl).app hK1
      have hgr : sz + 1 ≤ H1.size := by omega
      have hP9 : va_P (dC, dI) vwCl [(h0, .inr (5, [.ref ar, .ref oB, .ref oS, .int 0, .int 0, .int 0, .int 4, .int 0, .int 0]))] H1 := hP.sub [0] rfl
      have hD9 : va_D A [(h0, .inr (5, [.ref ar, .ref oB, .ref oS, .int 0, .int 0, .int 0, .int 4, .int 0, .int 0]))] := hD.sub [0] (by decide) rfl
      have hK9 : va_K (dC, dI) vwCl [] s := hK.sub [] rfl
      exact vx_out (fun x h => (htab x h).elim) hlocks hce hcv hcl (fun t9 ht9 hal9 => ⟨(), trivial, ⟨rfl, by rw [ht9]; exact hP9, va_K.moved hal9 hK9, hD9, by rw [ht9]; exact hgr⟩, hS.F ht9⟩) hS.2.2 (Nat.le_of_ble_eq_true rfl) (Nat.le_of_ble_eq_true rfl)
    · skip
      exact False.elim hw
set_option maxHeartbeats 4000000 in
set_option maxRecDepth 100000 in
theorem c_peek4 (l : Launch) (dC : Nat → ClassId) (dI : Nat → Nat → Nat) (h0 : Nat) (am : Nat) (oM : Nat) (oS : Nat) (oK : Nat) (oL : Nat) (oD : Nat) (tm : ClassId) (f : Nat → Int32) (sz : Nat) (hF0 : f (2 : Int32).toNatClampNeg = 1) : Met l yX0_peek wsX0_peek ({ frames := 0, cells := 0, slots := 0, locals := 0 } : Room) (va_Pc [.ref h0, .int 4] (fun U => U.heap.size = sz ∧ va_P (dC, dI) vwCl [(h0, .inr (0, [.ref am, .ref oM, .ref oS, .ref oK, .ref oL, .ref oD])), (am, .inl (tm, 512, .inl f))] U.heap ∧ va_K (dC, dI) vwCl [(tm, .int)] U ∧ va_D (fun _ => True) [(h0, .inr (0, [.ref am, .ref oM, .ref oS, .ref oK, .ref oL, .ref oD])), (am, .inl (tm, 512, .inl f))])) (va_Qi (fun (r : Int32) (u : Unit) => (1 = r)) (fun (u : Unit) (t : State) => va_P (dC, dI) vwCl [(h0, .inr (0, [.ref am, .ref oM, .ref oS, .ref oK, .ref oL, .ref oD])), (am, .inl (tm, 512, .inl f))] t.heap ∧ va_K (dC, dI) vwCl [(tm, .int)] t ∧ va_D (va_A [(h0, .inr (0, [.ref am, .ref oM, .ref oS, .ref oK, .ref oL, .ref oD])), (am, .inl (tm, 512, .inl f))] sz) [(h0, .inr (0, [.ref am, .ref oM, .ref oS, .ref oK, .ref oL, .ref oD])), (am, .inl (tm, 512, .inl f))]) (va_A [(h0, .inr (0, [.ref am, .ref oM, .ref oS, .ref oK, .ref oL, .ref oD])), (am, .inl (tm, 512, .inl f))] sz)) 0 0 (va_A [(h0, .inr (0, [.ref am, .ref oM, .ref oS, .ref oK, .ref oL, .ref oD])), (am, .inl (tm, 512, .inl f))] sz) := by
  refine Met.ofW (cc := cX0_peek) (maxL := 2) (ret := (some .int)) (by decide) rfl ?_
  intro p e s m args below meth c s₁ B hml hv
  obtain ⟨rfl, hsz, hP, hK, hD0⟩ := hv
  have hx := B.exec
  have hb := B.bytes
  have hr := B.returns
  have hts := atoms_spec (ws := wsX0_peek) B.pre
  have hown : s.vm.findClass RX0 = some m.cls := findClass_of_methodNamed B.named
  have hlocks := B.notSynchronized
  have hD := hD0.self (sz := sz)
  generalize hAe : va_A [(h0, .inr (0, [.ref am, .ref oM, .ref oS, .ref oK, .ref oL, .ref oD])), (am, .inl (tm, 512, .inl f))] sz = A at hD ⊢
  have hA : ∀ q : Nat, s.heap.size ≤ q → A q := fun q h => by rw [← hAe]; exact Or.inr (by omega)
  have hS0 : ∀ G : Heap, s.heap = G → va_S A s.heap G [] := fun G h => by subst h; exact va_S.rf
  generalize hHe : s.heap = H at hP ⊢
  have hS := hS0 H hHe
  have hP : va_P (dC, dI) vwCl [(h0, .inr (0, [.ref am, .ref oM, .ref oS, .ref oK, .ref oL, .ref oD])), (am, .inl (tm, 512, .inl f))] H := hP
  have hD : va_D A [(h0, .inr (0, [.ref am, .ref oM, .ref oS, .ref oK, .ref oL, .ref oD])), (am, .inl (tm, 512, .inl f))] := hD
  have hK : va_K (dC, dI) vwCl [(tm, .int)] s := hK
  have hl := lv_entry ([.ref h0, .int 4]) (n := 2) (Nat.le_of_ble_eq_true rfl)
  rw [lg_entry_eq]
  generalize (lg_sl ([.ref h0, .int 4]) ++ List.replicate (2 - (lg_sl ([.ref h0, .int 4])).length) Slot.unset).toArray = ls at hl ⊢
  have hl : lv_has ls 2 [(0, .ref h0), (1, .int 4)] := hl
  refine lv_iload_n hx hb dX0_peek_0 rfl (lv_at hl 1 rfl) ?_
  refine lv_iconst (v := 1) hx hb dX0_peek_1 (by decide) ?_
  refine lv_iand hx hb dX0_peek_2 ?_
  refine lv_topi (fun y1 ey1 => ?_)
  obtain rfl : y1 = 0 := by rw [ey1]; decide
  refine lv_if_eq (tgt := 8) hx hb dX0_peek_3 (by decide) (fun c2 => ?_) (fun c2 => ?_)
  · skip
    refine lv_iload_n hx hb dX0_peek_8 rfl (lv_at hl 1 rfl) ?_
    refine lv_if_lt (tgt := 28) hx hb dX0_peek_9 (by decide) (fun c3 => ?_) (fun c3 => ?_)
    · exact absurd c3 (by decide)
    · skip
      refine lv_iload_n hx hb dX0_peek_12 rfl (lv_at hl 1 rfl) ?_
      refine lv_sipush (v := 1024) hx hb dX0_peek_13 (by decide) ?_
      refine lv_icmp_ge (tgt := 28) hx hb dX0_peek_16 (by decide) (fun c4 => ?_) (fun c4 => ?_)
      · exact absurd c4 (by decide)
      · skip
        refine lv_aload_n hx hb dX0_peek_19 rfl (lv_at hl 0 rfl) ?_
        refine va_get (D := (dC, dI)) (ci := 0) (v := .ref am) (C := RX0) (T := TX0) (N := 6) hx hb hts (by decide +kernel) hown hK hP 0 rfl rfl 0 (by decide) (hts (.fieldLink RX0 9 "UnibusMachine$Bus" "memory" "[I") (by decide +kernel)) (fun _ h9 => h9) rfl dX0_peek_20 ?_
        refine lv_iload_n hx hb dX0_peek_23 rfl (lv_at hl 1 rfl) ?_
        refine lv_iconst (v := 1) hx hb dX0_peek_24 (by decide) ?_
        refine lv_ishr hx hb dX0_peek_25 ?_
        refine lv_topi (fun y5 ey5 => ?_)
        obtain rfl : y5 = 2 := by rw [ey5]; decide
        refine va_iald (D := (dC, dI)) hx hb hK hP 1 0 rfl rfl (vp_in_iff.mpr (by decide)) dX0_peek_26 ?_
        refine lv_topi (fun y6 ey6 => ?_)
        obtain rfl : y6 = 1 := by rw [ey6]; assumption
        have hP9 := hP.sub (ws' := [(h0, .inr (0, [.ref am, .ref oM, .ref oS, .ref oK, .ref oL, .ref oD])), (am, .inl (tm, 512, .inl f))]) [0, 1] rfl
        have hD9 := hD.sub (ws' := [(h0, .inr (0, [.ref am, .ref oM, .ref oS, .ref oK, .ref oL, .ref oD])), (am, .inl (tm, 512, .inl f))]) [0, 1] (by decide) rfl
        have hK9 := hK.sub (tys' := [(tm, .int)]) [0] rfl
        exact W.iret (v := 1) hx hb hr (fun t ht hW => ⟨⟨1, (), rfl, rfl, by rw [ht]; exact hP9, va_K.moved hW.alike hK9, hD9⟩, hS.F ht⟩) hS.2.2 dX0_peek_27
  · exact absurd c2 (by decide)
set_option maxHeartbeats 4000000 in
set_option maxRecDepth 100000 in
theorem c_read4 (l : Launch) (dC : Nat → ClassId) (dI : Nat → Nat → Nat) (h0 : Nat) (am : Nat) (oM : Nat) (oS : Nat) (oK : Nat) (oL : Nat) (oD : Nat) (tm : ClassId) (f : Nat → Int32) (sz : Nat) (hF0 : f (2 : Int32).toNatClampNeg = 1) : Met l yX0_read wsX0_read ({ frames := 1, cells := 0, slots := 0, locals := 21 } : Room) (va_Pc [.ref h0, .int 4] (fun U => U.heap.size = sz ∧ va_P (dC, dI) vwCl [(h0, .inr (0, [.ref am, .ref oM, .ref oS, .ref oK, .ref oL, .ref oD])), (am, .inl (tm, 512, .inl f))] U.heap ∧ va_K (dC, dI) vwCl [(tm, .int)] U ∧ va_D (fun _ => True) [(h0, .inr (0, [.ref am, .ref oM, .ref oS, .ref oK, .ref oL, .ref oD])), (am, .inl (tm, 512, .inl f))])) (va_Qi (fun (r : Int32) (u : Unit) => (1 = r)) (fun (u : Unit) (t : State) => va_P (dC, dI) vwCl [(h0, .inr (0, [.ref am, .ref oM, .ref oS, .ref oK, .ref oL, .ref oD])), (am, .inl (tm, 512, .inl f))] t.heap ∧ va_K (dC, dI) vwCl [(tm, .int)] t ∧ va_D (va_A [(h0, .inr (0, [.ref am, .ref oM, .ref oS, .ref oK, .ref oL, .ref oD])), (am, .inl (tm, 512, .inl f))] sz) [(h0, .inr (0, [.ref am, .ref oM, .ref oS, .ref oK, .ref oL, .ref oD])), (am, .inl (tm, 512, .inl f))]) (va_A [(h0, .inr (0, [.ref am, .ref oM, .ref oS, .ref oK, .ref oL, .ref oD])), (am, .inl (tm, 512, .inl f))] sz)) 0 0 (va_A [(h0, .inr (0, [.ref am, .ref oM, .ref oS, .ref oK, .ref oL, .ref oD])), (am, .inl (tm, 512, .inl f))] sz) := by
  refine Met.ofW (cc := cX0_read) (maxL := 3) (ret := (some .int)) (by decide) rfl ?_
  intro p e s m args below meth c s₁ B hml hv
  obtain ⟨rfl, hsz, hP, hK, hD0⟩ := hv
  have hx := B.exec
  have hb := B.bytes
  have hr := B.returns
  have hts := atoms_spec (ws := wsX0_read) B.pre
  have hown : s.vm.findClass RX0 = some m.cls := findClass_of_methodNamed B.named
  have hlocks := B.notSynchronized
  have hD := hD0.self (sz := sz)
  generalize hAe : va_A [(h0, .inr (0, [.ref am, .ref oM, .ref oS, .ref oK, .ref oL, .ref oD])), (am, .inl (tm, 512, .inl f))] sz = A at hD ⊢
  have hA : ∀ q : Nat, s.heap.size ≤ q → A q := fun q h => by rw [← hAe]; exact Or.inr (by omega)
  have hS0 : ∀ G : Heap, s.heap = G → va_S A s.heap G [] := fun G h => by subst h; exact va_S.rf
  generalize hHe : s.heap = H at hP ⊢
  have hS := hS0 H hHe
  have hP : va_P (dC, dI) vwCl [(h0, .inr (0, [.ref am, .ref oM, .ref oS, .ref oK, .ref oL, .ref oD])), (am, .inl (tm, 512, .inl f))] H := hP
  have hD : va_D A [(h0, .inr (0, [.ref am, .ref oM, .ref oS, .ref oK, .ref oL, .ref oD])), (am, .inl (tm, 512, .inl f))] := hD
  have hK : va_K (dC, dI) vwCl [(tm, .int)] s := hK
  have hl := lv_entry ([.ref h0, .int 4]) (n := 3) (Nat.le_of_ble_eq_true rfl)
  rw [lg_entry_eq]
  generalize (lg_sl ([.ref h0, .int 4]) ++ List.replicate (3 - (lg_sl ([.ref h0, .int 4])).length) Slot.unset).toArray = ls at hl ⊢
  have hl : lv_has ls 3 [(0, .ref h0), (1, .int 4)] := hl
  refine lv_aload_n hx hb dX0_read_0 rfl (lv_at hl 0 rfl) ?_
  refine lv_iload_n hx hb dX0_read_1 rfl (lv_at hl 1 rfl) ?_
  have hPc := hP.sub (ws' := [(h0, .inr (0, [.ref am, .ref oM, .ref oS, .ref oK, .ref oL, .ref oD])), (am, .inl (tm, 512, .inl f))]) [0, 1] rfl
  have hDc := hD.sub (ws' := [(h0, .inr (0, [.ref am, .ref oM, .ref oS, .ref oK, .ref oL, .ref oD])), (am, .inl (tm, 512, .inl f))]) [0, 1] (by decide) rfl
  have hKc := hK.sub (tys' := [(tm, .int)]) [0] rfl
  have hFc := va_free (wc := [(h0, .inr (0, [.ref am, .ref oM, .ref oS, .ref oK, .ref oL, .ref oD])), (am, .inl (tm, 512, .inl f))]) hD hS hA [0, 1] rfl
  refine va_calli (va_runV (As := [.int 4]) (rest := []) ⟨hx, hb, hml, hown, hts⟩ (c_peek4 l dC dI h0 am oM oS oK oL oD tm f H.size (by first | assumption | omega | decide)) (cwV 1 hts gX0_read_X0_peek rfl rfl rfl (by decide +kernel) ⟨Nat.le_of_ble_eq_true rfl, Nat.le_of_ble_eq_true rfl⟩) ⟨fun a U g mk q => by obtain ⟨q0, q1, qP, qK, qD⟩ := q; exact ⟨q0, q1, qP, va_K.moved (u := U) (U := U.calling g mk a) (Vm.Alike.refl U.vm) qK, qD⟩, va_recv hKc hPc (ci := 0) (q0 := 0) rfl rfl, fun U hU hW => ⟨rfl, by rw [hU], by rw [hU]; exact hPc, va_K.moved hW.alike hKc, hDc.weaken (fun _ _ _ _ => trivial)⟩⟩ rfl rfl hl.1 rfl (lv_room (Nat.le_of_ble_eq_true rfl)) dX0_read_2 ⟨Nat.le_of_ble_eq_true rfl, Nat.le_of_ble_eq_true rfl⟩) hS (fun q _ h => hFc q h) hFc (fun r1 u2 t H1 locs ht hvm hw hB hz1 hk1 hS => ?_)
  obtain ⟨hP1, hK1, hD1⟩ := hB
  rw [ht] at hP1
  have hK1 := va_K.moved hvm.symm hK1
  try dsimp only at hw
  obtain ⟨hP, hD⟩ := va_join (wr := []) (w1 := [(h0, .inr (0, [.ref am, .ref oM, .ref oS, .ref oK, .ref oL, .ref oD])), (am, .inl (tm, 512, .inl f))]) hP hD [0, 1] [] rfl rfl (by decide) (by decide) hk1 hFc hP1 hD1
  have hK := (hK.sub (tys' := []) [] rfl).app hK1
  generalize H1 = H at hP hS ⊢
  have hP : va_P (dC, dI) vwCl [(h0, .inr (0, [.ref am, .ref oM, .ref oS, .ref oK, .ref oL, .ref oD])), (am, .inl (tm, 512, .inl f))] H := hP
  have hD : va_D A [(h0, .inr (0, [.ref am, .ref oM, .ref oS, .ref oK, .ref oL, .ref oD])), (am, .inl (tm, 512, .inl f))] := hD
  have hK : va_K (dC, dI) vwCl [(tm, .int)] s := hK
  refine W.widen (k := 0) (n := 0) (Nat.le_of_ble_eq_true rfl) (Nat.le_of_ble_eq_true rfl) ?_
  obtain rfl := hw
  refine lv_istore_n (lv' := [(2, .int 1), (0, .ref h0), (1, .int 4)]) hx hb dX0_read_5 rfl hl (by decide) rfl (fun ls hl => ?_)
  refine lv_iload_n hx hb dX0_read_6 rfl (lv_at hl 2 rfl) ?_
  refine lv_ldc (v := 57426) hx hb hown (hts (.constant RX0 91 (57426)) (by decide +kernel)) dX0_read_7 ?_
  refine lv_icmp_ne (tgt := 29) hx hb dX0_read_9 (by decide) (fun c3 => ?_) (fun c3 => ?_)
  · skip
    refine lv_iload_n hx hb dX0_read_29 rfl (lv_at hl 0 rfl) ?_
    have hP9 := hP.sub (ws' := [(h0, .inr (0, [.ref am, .ref oM, .ref oS, .ref oK, .ref oL, .ref oD])), (am, .inl (tm, 512, .inl f))]) [0, 1] rfl
    have hD9 := hD.sub (ws' := [(h0, .inr (0, [.ref am, .ref oM, .ref oS, .ref oK, .ref oL, .ref oD])), (am, .inl (tm, 512, .inl f))]) [0, 1] (by decide) rfl
    have hK9 := hK.sub (tys' := [(tm, .int)]) [0] rfl
    exact W.iret (v := 1) hx hb hr (fun t ht hW => ⟨⟨1, (), rfl, rfl, by rw [ht]; exact hP9, va_K.moved hW.alike hK9, hD9⟩, hS.F ht⟩) hS.2.2 dX0_read_30
  · exact absurd c3 (by decide)
set_option maxHeartbeats 4000000 in
set_option maxRecDepth 100000 in
theorem c_peek6 (l : Launch) (dC : Nat → ClassId) (dI : Nat → Nat → Nat) (h0 : Nat) (am : Nat) (oM : Nat) (oS : Nat) (oK : Nat) (oL : Nat) (oD : Nat) (tm : ClassId) (f : Nat → Int32) (sz : Nat) (hF0 : f (3 : Int32).toNatClampNeg = 224) : Met l yX0_peek wsX0_peek ({ frames := 0, cells := 0, slots := 0, locals := 0 } : Room) (va_Pc [.ref h0, .int 6] (fun U => U.heap.size = sz ∧ va_P (dC, dI) vwCl [(h0, .inr (0, [.ref am, .ref oM, .ref oS, .ref oK, .ref oL, .ref oD])), (am, .inl (tm, 512, .inl f))] U.heap ∧ va_K (dC, dI) vwCl [(tm, .int)] U ∧ va_D (fun _ => True) [(h0, .inr (0, [.ref am, .ref oM, .ref oS, .ref oK, .ref oL, .ref oD])), (am, .inl (tm, 512, .inl f))])) (va_Qi (fun (r : Int32) (u : Unit) => (224 = r)) (fun (u : Unit) (t : State) => va_P (dC, dI) vwCl [(h0, .inr (0, [.ref am, .ref oM, .ref oS, .ref oK, .ref oL, .ref oD])), (am, .inl (tm, 512, .inl f))] t.heap ∧ va_K (dC, dI) vwCl [(tm, .int)] t ∧ va_D (va_A [(h0, .inr (0, [.ref am, .ref oM, .ref oS, .ref oK, .ref oL, .ref oD])), (am, .inl (tm, 512, .inl f))] sz) [(h0, .inr (0, [.ref am, .ref oM, .ref oS, .ref oK, .ref oL, .ref oD])), (am, .inl (tm, 512, .inl f))]) (va_A [(h0, .inr (0, [.ref am, .ref oM, .ref oS, .ref oK, .ref oL, .ref oD])), (am, .inl (tm, 512, .inl f))] sz)) 0 0 (va_A [(h0, .inr (0, [.ref am, .ref oM, .ref oS, .ref oK, .ref oL, .ref oD])), (am, .inl (tm, 512, .inl f))] sz) := by
  refine Met.ofW (cc := cX0_peek) (maxL := 2) (ret := (some .int)) (by decide) rfl ?_
  intro p e s m args below meth c s₁ B hml hv
  obtain ⟨rfl, hsz, hP, hK, hD0⟩ := hv
  have hx := B.exec
  have hb := B.bytes
  have hr := B.returns
  have hts := atoms_spec (ws := wsX0_peek) B.pre
  have hown : s.vm.findClass RX0 = some m.cls := findClass_of_methodNamed B.named
  have hlocks := B.notSynchronized
  have hD := hD0.self (sz := sz)
  generalize hAe : va_A [(h0, .inr (0, [.ref am, .ref oM, .ref oS, .ref oK, .ref oL, .ref oD])), (am, .inl (tm, 512, .inl f))] sz = A at hD ⊢
  have hA : ∀ q : Nat, s.heap.size ≤ q → A q := fun q h => by rw [← hAe]; exact Or.inr (by omega)
  have hS0 : ∀ G : Heap, s.heap = G → va_S A s.heap G [] := fun G h => by subst h; exact va_S.rf
  generalize hHe : s.heap = H at hP ⊢
  have hS := hS0 H hHe
  have hP : va_P (dC, dI) vwCl [(h0, .inr (0, [.ref am, .ref oM, .ref oS, .ref oK, .ref oL, .ref oD])), (am, .inl (tm, 512, .inl f))] H := hP
  have hD : va_D A [(h0, .inr (0, [.ref am, .ref oM, .ref oS, .ref oK, .ref oL, .ref oD])), (am, .inl (tm, 512, .inl f))] := hD
  have hK : va_K (dC, dI) vwCl [(tm, .int)] s := hK
  have hl := lv_entry ([.ref h0, .int 6]) (n := 2) (Nat.le_of_ble_eq_true rfl)
  rw [lg_entry_eq]
  generalize (lg_sl ([.ref h0, .int 6]) ++ List.replicate (2 - (lg_sl ([.ref h0, .int 6])).length) Slot.unset).toArray = ls at hl ⊢
  have hl : lv_has ls 2 [(0, .ref h0), (1, .int 6)] := hl
  refine lv_iload_n hx hb dX0_peek_0 rfl (lv_at hl 1 rfl) ?_
  refine lv_iconst (v := 1) hx hb dX0_peek_1 (by decide) ?_
  refine lv_iand hx hb dX0_peek_2 ?_
  refine lv_topi (fun y1 ey1 => ?_)
  obtain rfl : y1 = 0 := by rw [ey1]; decide
  refine lv_if_eq (tgt := 8) hx hb dX0_peek_3 (by decide) (fun c2 => ?_) (fun c2 => ?_)
  · skip
    refine lv_iload_n hx hb dX0_peek_8 rfl (lv_at hl 1 rfl) ?_
    refine lv_if_lt (tgt := 28) hx hb dX0_peek_9 (by decide) (fun c3 => ?_) (fun c3 => ?_)
    · exact absurd c3 (by decide)
    · skip
      refine lv_iload_n hx hb dX0_peek_12 rfl (lv_at hl 1 rfl) ?_
      refine lv_sipush (v := 1024) hx hb dX0_peek_13 (by decide) ?_
      refine lv_icmp_ge (tgt := 28) hx hb dX0_peek_16 (by decide) (fun c4 => ?_) (fun c4 => ?_)
      · exact absurd c4 (by decide)
      · skip
        refine lv_aload_n hx hb dX0_peek_19 rfl (lv_at hl 0 rfl) ?_
        refine va_get (D := (dC, dI)) (ci := 0) (v := .ref am) (C := RX0) (T := TX0) (N := 6) hx hb hts (by decide +kernel) hown hK hP 0 rfl rfl 0 (by decide) (hts (.fieldLink RX0 9 "UnibusMachine$Bus" "memory" "[I") (by decide +kernel)) (fun _ h9 => h9) rfl dX0_peek_20 ?_
        refine lv_iload_n hx hb dX0_peek_23 rfl (lv_at hl 1 rfl) ?_
        refine lv_iconst (v := 1) hx hb dX0_peek_24 (by decide) ?_
        refine lv_ishr hx hb dX0_peek_25 ?_
        refine lv_topi (fun y5 ey5 => ?_)
        obtain rfl : y5 = 3 := by rw [ey5]; decide
        refine va_iald (D := (dC, dI)) hx hb hK hP 1 0 rfl rfl (vp_in_iff.mpr (by decide)) dX0_peek_26 ?_
        refine lv_topi (fun y6 ey6 => ?_)
        obtain rfl : y6 = 224 := by rw [ey6]; assumption
        have hP9 := hP.sub (ws' := [(h0, .inr (0, [.ref am, .ref oM, .ref oS, .ref oK, .ref oL, .ref oD])), (am, .inl (tm, 512, .inl f))]) [0, 1] rfl
        have hD9 := hD.sub (ws' := [(h0, .inr (0, [.ref am, .ref oM, .ref oS, .ref oK, .ref oL, .ref oD])), (am, .inl (tm, 512, .inl f))]) [0, 1] (by decide) rfl
        have hK9 := hK.sub (tys' := [(tm, .int)]) [0] rfl
        exact W.iret (v := 224) hx hb hr (fun t ht hW => ⟨⟨224, (), rfl, rfl, by rw [ht]; exact hP9, va_K.moved hW.alike hK9, hD9⟩, hS.F ht⟩) hS.2.2 dX0_peek_27
  · exact absurd c2 (by decide)
set_option maxHeartbeats 4000000 in
set_option maxRecDepth 100000 in
theorem c_read6 (l : Launch) (dC : Nat → ClassId) (dI : Nat → Nat → Nat) (h0 : Nat) (am : Nat) (oM : Nat) (oS : Nat) (oK : Nat) (oL : Nat) (oD : Nat) (tm : ClassId) (f : Nat → Int32) (sz : Nat) (hF0 : f (3 : Int32).toNatClampNeg = 224) : Met l yX0_read wsX0_read ({ frames := 1, cells := 0, slots := 0, locals := 21 } : Room) (va_Pc [.ref h0, .int 6] (fun U => U.heap.size = sz ∧ va_P (dC, dI) vwCl [(h0, .inr (0, [.ref am, .ref oM, .ref oS, .ref oK, .ref oL, .ref oD])), (am, .inl (tm, 512, .inl f))] U.heap ∧ va_K (dC, dI) vwCl [(tm, .int)] U ∧ va_D (fun _ => True) [(h0, .inr (0, [.ref am, .ref oM, .ref oS, .ref oK, .ref oL, .ref oD])), (am, .inl (tm, 512, .inl f))])) (va_Qi (fun (r : Int32) (u : Unit) => (224 = r)) (fun (u : Unit) (t : State) => va_P (dC, dI) vwCl [(h0, .inr (0, [.ref am, .ref oM, .ref oS, .ref oK, .ref oL, .ref oD])), (am, .inl (tm, 512, .inl f))] t.heap ∧ va_K (dC, dI) vwCl [(tm, .int)] t ∧ va_D (va_A [(h0, .inr (0, [.ref am, .ref oM, .ref oS, .ref oK, .ref oL, .ref oD])), (am, .inl (tm, 512, .inl f))] sz) [(h0, .inr (0, [.ref am, .ref oM, .ref oS, .ref oK, .ref oL, .ref oD])), (am, .inl (tm, 512, .inl f))]) (va_A [(h0, .inr (0, [.ref am, .ref oM, .ref oS, .ref oK, .ref oL, .ref oD])), (am, .inl (tm, 512, .inl f))] sz)) 0 0 (va_A [(h0, .inr (0, [.ref am, .ref oM, .ref oS, .ref oK, .ref oL, .ref oD])), (am, .inl (tm, 512, .inl f))] sz) := by
  refine Met.ofW (cc := cX0_read) (maxL := 3) (ret := (some .int)) (by decide) rfl ?_
  intro p e s m args below meth c s₁ B hml hv
  obtain ⟨rfl, hsz, hP, hK, hD0⟩ := hv
  have hx := B.exec
  have hb := B.bytes
  have hr := B.returns
  have hts := atoms_spec (ws := wsX0_read) B.pre
  have hown : s.vm.findClass RX0 = some m.cls := findClass_of_methodNamed B.named
  have hlocks := B.notSynchronized
  have hD := hD0.self (sz := sz)
  generalize hAe : va_A [(h0, .inr (0, [.ref am, .ref oM, .ref oS, .ref oK, .ref oL, .ref oD])), (am, .inl (tm, 512, .inl f))] sz = A at hD ⊢
  have hA : ∀ q : Nat, s.heap.size ≤ q → A q := fun q h => by rw [← hAe]; exact Or.inr (by omega)
  have hS0 : ∀ G : Heap, s.heap = G → va_S A s.heap G [] := fun G h => by subst h; exact va_S.rf
  generalize hHe : s.heap = H at hP ⊢
  have hS := hS0 H hHe
  have hP : va_P (dC, dI) vwCl [(h0, .inr (0, [.ref am, .ref oM, .ref oS, .ref oK, .ref oL, .ref oD])), (am, .inl (tm, 512, .inl f))] H := hP
  have hD : va_D A [(h0, .inr (0, [.ref am, .ref oM, .ref oS, .ref oK, .ref oL, .ref oD])), (am, .inl (tm, 512, .inl f))] := hD
  have hK : va_K (dC, dI) vwCl [(tm, .int)] s := hK
  have hl := lv_entry ([.ref h0, .int 6]) (n := 3) (Nat.le_of_ble_eq_true rfl)
  rw [lg_entry_eq]
  generalize (lg_sl ([.ref h0, .int 6]) ++ List.replicate (3 - (lg_sl ([.ref h0, .int 6])).length) Slot.unset).toArray = ls at hl ⊢
  have hl : lv_has ls 3 [(0, .ref h0), (1, .int 6)] := hl
  refine lv_aload_n hx hb dX0_read_0 rfl (lv_at hl 0 rfl) ?_
  refine lv_iload_n hx hb dX0_read_1 rfl (lv_at hl 1 rfl) ?_
  have hPc := hP.sub (ws' := [(h0, .inr (0, [.ref am, .ref oM, .ref oS, .ref oK, .ref oL, .ref oD])), (am, .inl (tm, 512, .inl f))]) [0, 1] rfl
  have hDc := hD.sub (ws' := [(h0, .inr (0, [.ref am, .ref oM, .ref oS, .ref oK, .ref oL, .ref oD])), (am, .inl (tm, 512, .inl f))]) [0, 1] (by decide) rfl
  have hKc := hK.sub (tys' := [(tm, .int)]) [0] rfl
  have hFc := va_free (wc := [(h0, .inr (0, [.ref am, .ref oM, .ref oS, .ref oK, .ref oL, .ref oD])), (am, .inl (tm, 512, .inl f))]) hD hS hA [0, 1] rfl
  refine va_calli (va_runV (As := [.int 6]) (rest := []) ⟨hx, hb, hml, hown, hts⟩ (c_peek6 l dC dI h0 am oM oS oK oL oD tm f H.size (by first | assumption | omega | decide)) (cwV 1 hts gX0_read_X0_peek rfl rfl rfl (by decide +kernel) ⟨Nat.le_of_ble_eq_true rfl, Nat.le_of_ble_eq_true rfl⟩) ⟨fun a U g mk q => by obtain ⟨q0, q1, qP, qK, qD⟩ := q; exact ⟨q0, q1, qP, va_K.moved (u := U) (U := U.calling g mk a) (Vm.Alike.refl U.vm) qK, qD⟩, va_recv hKc hPc (ci := 0) (q0 := 0) rfl rfl, fun U hU hW => ⟨rfl, by rw [hU], by rw [hU]; exact hPc, va_K.moved hW.alike hKc, hDc.weaken (fun _ _ _ _ => trivial)⟩⟩ rfl rfl hl.1 rfl (lv_room (Nat.le_of_ble_eq_true rfl)) dX0_read_2 ⟨Nat.le_of_ble_eq_true rfl, Nat.le_of_ble_eq_true rfl⟩) hS (fun q _ h => hFc q h) hFc (fun r1 u2 t H1 locs ht hvm hw hB hz1 hk1 hS => ?_)
  obtain ⟨hP1, hK1, hD1⟩ := hB
  rw [ht] at hP1
  have hK1 := va_K.moved hvm.symm hK1
  try dsimp only at hw
  obtain ⟨hP, hD⟩ := va_join (wr := []) (w1 := [(h0, .inr (0, [.ref am, .ref oM, .ref oS, .ref oK, .ref oL, .ref oD])), (am, .inl (tm, 512, .inl f))]) hP hD [0, 1] [] rfl rfl (by decide) (by decide) hk1 hFc hP1 hD1
  have hK := (hK.sub (tys' := []) [] rfl).app hK1
  generalize H1 = H at hP hS ⊢
  have hP : va_P (dC, dI) vwCl [(h0, .inr (0, [.ref am, .ref oM, .ref oS, .ref oK, .ref oL, .ref oD])), (am, .inl (tm, 512, .inl f))] H := hP
  have hD : va_D A [(h0, .inr (0, [.ref am, .ref oM, .ref oS, .ref oK, .ref oL, .ref oD])), (am, .inl (tm, 512, .inl f))] := hD
  have hK : va_K (dC, dI) vwCl [(tm, .int)] s := hK
  refine W.widen (k := 0) (n := 0) (Nat.le_of_ble_eq_true rfl) (Nat.le_of_ble_eq_true rfl) ?_
  obtain rfl := hw
  refine lv_istore_n (lv' := [(2, .int 224), (0, .ref h0), (1, .int 6)]) hx hb dX0_read_5 rfl hl (by decide) rfl (fun ls hl => ?_)
  refine lv_iload_n hx hb dX0_read_6 rfl (lv_at hl 2 rfl) ?_
  refine lv_ldc (v := 57426) hx hb hown (hts (.constant RX0 91 (57426)) (by decide +kernel)) dX0_read_7 ?_
  refine lv_icmp_ne (tgt := 29) hx hb dX0_read_9 (by decide) (fun c3 => ?_) (fun c3 => ?_)
  · skip
    refine lv_iload_n hx hb dX0_read_29 rfl (lv_at hl 0 rfl) ?_
    have hP9 := hP.sub (ws' := [(h0, .inr (0, [.ref am, .ref oM, .ref oS, .ref oK, .ref oL, .ref oD])), (am, .inl (tm, 512, .inl f))]) [0, 1] rfl
    have hD9 := hD.sub (ws' := [(h0, .inr (0, [.ref am, .ref oM, .ref oS, .ref oK, .ref oL, .ref oD])), (am, .inl (tm, 512, .inl f))]) [0, 1] (by decide) rfl
    have hK9 := hK.sub (tys' := [(tm, .int)]) [0] rfl
    exact W.iret (v := 224) hx hb hr (fun t ht hW => ⟨⟨224, (), rfl, rfl, by rw [ht]; exact hP9, va_K.moved hW.alike hK9, hD9⟩, hS.F ht⟩) hS.2.2 dX0_read_30
  · exact absurd c3 (by decide)
set_option maxHeartbeats 4000000 in
set_option maxRecDepth 100000 in
theorem c_locate (l : Launch) (dC : Nat → ClassId) (dI : Nat → Nat → Nat) (h0 : Nat) (ad : Nat) (ab : Nat) (a0 : Int32) (w0 : Int32) (sz : Nat) : Met l yX4_locate wsX4_locate ({ frames := 0, cells := 0, slots := 0, locals := 0 } : Room) (va_Pc [.ref h0, .int 0, .int a0, .int w0] (fun U => U.heap.size = sz ∧ va_P (dC, dI) vwCl [(h0, .inr (3, [.ref ad, .ref ab, .int 0]))] U.heap ∧ va_K (dC, dI) vwCl [] U ∧ va_D (fun _ => True) [(h0, .inr (3, [.ref ad, .ref ab, .int 0]))])) (va_Qi (fun (r : Int32) (u : Unit) => (a0 = r)) (fun (u : Unit) (t : State) => va_P (dC, dI) vwCl [(h0, .inr (3, [.ref ad, .ref ab, .int 0]))] t.heap ∧ va_K (dC, dI) vwCl [] t ∧ va_D (va_A [(h0, .inr (3, [.ref ad, .ref ab, .int 0]))] sz) [(h0, .inr (3, [.ref ad, .ref ab, .int 0]))]) (va_A [(h0, .inr (3, [.ref ad, .ref ab, .int 0]))] sz)) 0 0 (va_A [(h0, .inr (3, [.ref ad, .ref ab, .int 0]))] sz) := by
  refine Met.ofW (cc := cX4_locate) (maxL := 9) (ret := (some .int)) (by decide) rfl ?_
  intro p e s m args below meth c s₁ B hml hv
  obtain ⟨rfl, hsz, hP, hK, hD0⟩ := hv
  have hx := B.exec
  have hb := B.bytes
  have hr := B.returns
  have hts := atoms_spec (ws := wsX4_locate) B.pre
  have hown : s.vm.findClass RX4 = some m.cls := findClass_of_methodNamed B.named
  have hlocks := B.notSynchronized
  have hD := hD0.self (sz := sz)
  generalize hAe : va_A [(h0, .inr (3, [.ref ad, .ref ab, .int 0]))] sz = A at hD ⊢
  have hA : ∀ q : Nat, s.heap.size ≤ q → A q := fun q h => by rw [← hAe]; exact Or.inr (by omega)
  have hS0 : ∀ G : Heap, s.heap = G → va_S A s.heap G [] := fun G h => by subst h; exact va_S.rf
  generalize hHe : s.heap = H at hP ⊢
  have hS := hS0 H hHe
  have hP : va_P (dC, dI) vwCl [(h0, .inr (3, [.ref ad, .ref ab, .int 0]))] H := hP
  have hD : va_D A [(h0, .inr (3, [.ref ad, .ref ab, .int 0]))] := hD
  have hK : va_K (dC, dI) vwCl [] s := hK
  have hl := lv_entry ([.ref h0, .int 0, .int a0, .int w0]) (n := 9) (Nat.le_of_ble_eq_true rfl)
  rw [lg_entry_eq]
  generalize (lg_sl ([.ref h0, .int 0, .int a0, .int w0]) ++ List.replicate (9 - (lg_sl ([.ref h0, .int 0, .int a0, .int w0])).length) Slot.unset).toArray = ls at hl ⊢
  have hl : lv_has ls 9 [(0, .ref h0), (1, .int 0), (2, .int a0), (3, .int w0)] := hl
  refine lv_aload_n hx hb dX4_locate_0 rfl (lv_at hl 0 rfl) ?_
  refine va_get (D := (dC, dI)) (ci := 3) (v := .int 0) (C := RX4) (T := TX4) (N := 3) hx hb hts (by decide +kernel) hown hK hP 0 rfl rfl 2 (by decide) (hts (.fieldLink RX4 16 "UnibusMachine$PageMap" "control" "I") (by decide +kernel)) (fun _ h9 => h9) rfl dX4_locate_1 ?_
  refine lv_iconst (v := 1) hx hb dX4_locate_4 (by decide) ?_
  refine lv_iand hx hb dX4_locate_5 ?_
  refine lv_topi (fun y1 ey1 => ?_)
  obtain rfl : y1 = 0 := by rw [ey1]; decide
  refine lv_if_ne (tgt := 11) hx hb dX4_locate_6 (by decide) (fun c2 => ?_) (fun c2 => ?_)
  · exact absurd c2 (by decide)
  · skip
    refine lv_iload_n hx hb dX4_locate_9 rfl (lv_at hl 2 rfl) ?_
    have hP9 := hP.sub (ws' := [(h0, .inr (3, [.ref ad, .ref ab, .int 0]))]) [0] rfl
    have hD9 := hD.sub (ws' := [(h0, .inr (3, [.ref ad, .ref ab, .int 0]))]) [0] (by decide) rfl
    have hK9 := hK.sub (tys' := []) [] rfl
    exact W.iret (v := a0) hx hb hr (fun t ht hW => ⟨⟨a0, (), rfl, (by first | rfl | omega | assumption), by rw [ht]; exact hP9, va_K.moved hW.alike hK9, hD9⟩, hS.F ht⟩) hS.2.2 dX4_locate_10
set_option maxHeartbeats 4000000 in
set_option maxRecDepth 100000 in
theorem c_place4 (l : Launch) (dC : Nat → ClassId) (dI : Nat → Nat → Nat) (h0 : Nat) (ar : Nat) (oB : Nat) (oS : Nat) (ve : Int32) (am : Nat) (oM : Nat) (oK : Nat) (oL : Nat) (oD : Nat) (ad : Nat) (ab : Nat) (sz : Nat) : Met l yX6_place wsX6_place ({ frames := 1, cells := 0, slots := 0, locals := 28 } : Room) (va_Pc [.ref h0, .int 0, .int 4, .int 0] (fun U => U.heap.size = sz ∧ va_P (dC, dI) vwCl [(h0, .inr (5, [.ref ar, .ref oB, .ref oS, .int 0, .int 0, .int 0, .int ve, .int 0, .int 0])), (oB, .inr (0, [.ref am, .ref oM, .ref oS, .ref oK, .ref oL, .ref oD])), (oM, .inr (3, [.ref ad, .ref ab, .int 0]))] U.heap ∧ va_K (dC, dI) vwCl [] U ∧ va_D (fun _ => True) [(h0, .inr (5, [.ref ar, .ref oB, .ref oS, .int 0, .int 0, .int 0, .int ve, .int 0, .int 0])), (oB, .inr (0, [.ref am, .ref oM, .ref oS, .ref oK, .ref oL, .ref oD])), (oM, .inr (3, [.ref ad, .ref ab, .int 0]))])) (va_Qi (fun (r : Int32) (u : Unit) => (4 = r)) (fun (u : Unit) (t : State) => va_P (dC, dI) vwCl [(h0, .inr (5, [.ref ar, .ref oB, .ref oS, .int 0, .int 0, .int 0, .int ve, .int 0, .int 0])), (oB, .inr (0, [.ref am, .ref oM, .ref oS, .ref oK, .ref oL, .ref oD])), (oM, .inr (3, [.ref ad, .ref ab, .int 0]))] t.heap ∧ va_K (dC, dI) vwCl [] t ∧ va_D (va_A [(h0, .inr (5, [.ref ar, .ref oB, .ref oS, .int 0, .int 0, .int 0, .int ve, .int 0, .int 0])), (oB, .inr (0, [.ref am, .ref oM, .ref oS, .ref oK, .ref oL, .ref oD])), (oM, .inr (3, [.ref ad, .ref ab, .int 0]))] sz) [(h0, .inr (5, [.ref ar, .ref oB, .ref oS, .int 0, .int 0, .int 0, .int ve, .int 0, .int 0])), (oB, .inr (0, [.ref am, .ref oM, .ref oS, .ref oK, .ref oL, .ref oD])), (oM, .inr (3, [.ref ad, .ref ab, .int 0]))]) (va_A [(h0, .inr (5, [.ref ar, .ref oB, .ref oS, .int 0, .int 0, .int 0, .int ve, .int 0, .int 0])), (oB, .inr (0, [.ref am, .ref oM, .ref oS, .ref oK, .ref oL, .ref oD])), (oM, .inr (3, [.ref ad, .ref ab, .int 0]))] sz)) 0 0 (va_A [(h0, .inr (5, [.ref ar, .ref oB, .ref oS, .int 0, .int 0, .int 0, .int ve, .int 0, .int 0])), (oB, .inr (0, [.ref am, .ref oM, .ref oS, .ref oK, .ref oL, .ref oD])), (oM, .inr (3, [.ref ad, .ref ab, .int 0]))] sz) := by
  refine Met.ofW (cc := cX6_place) (maxL := 5) (ret := (some .int)) (by decide) rfl ?_
  intro p e s m args below meth c s₁ B hml hv
  obtain ⟨rfl, hsz, hP, hK, hD0⟩ := hv
  have hx := B.exec
  have hb := B.bytes
  have hr := B.returns
  have hts := atoms_spec (ws := wsX6_place) B.pre
  have hown : s.vm.findClass RX6 = some m.cls := findClass_of_methodNamed B.named
  have hlocks := B.notSynchronized
  have hD := hD0.self (sz := sz)
  generalize hAe : va_A [(h0, .inr (5, [.ref ar, .ref oB, .ref oS, .int 0, .int 0, .int 0, .int ve, .int 0, .int 0])), (oB, .inr (0, [.ref am, .ref oM, .ref oS, .ref oK, .ref oL, .ref oD])), (oM, .inr (3, [.ref ad, .ref ab, .int 0]))] sz = A at hD ⊢
  have hA : ∀ q : Nat, s.heap.size ≤ q → A q := fun q h => by rw [← hAe]; exact Or.inr (by omega)
  have hS0 : ∀ G : Heap, s.heap = G → va_S A s.heap G [] := fun G h => by subst h; exact va_S.rf
  generalize hHe : s.heap = H at hP ⊢
  have hS := hS0 H hHe
  have hP : va_P (dC, dI) vwCl [(h0, .inr (5, [.ref ar, .ref oB, .ref oS, .int 0, .int 0, .int 0, .int ve, .int 0, .int 0])), (oB, .inr (0, [.ref am, .ref oM, .ref oS, .ref oK, .ref oL, .ref oD])), (oM, .inr (3, [.ref ad, .ref ab, .int 0]))] H := hP
  have hD : va_D A [(h0, .inr (5, [.ref ar, .ref oB, .ref oS, .int 0, .int 0, .int 0, .int ve, .int 0, .int 0])), (oB, .inr (0, [.ref am, .ref oM, .ref oS, .ref oK, .ref oL, .ref oD])), (oM, .inr (3, [.ref ad, .ref ab, .int 0]))] := hD
  have hK : va_K (dC, dI) vwCl [] s := hK
  have hl := lv_entry ([.ref h0, .int 0, .int 4, .int 0]) (n := 5) (Nat.le_of_ble_eq_true rfl)
  rw [lg_entry_eq]
  generalize (lg_sl ([.ref h0, .int 0, .int 4, .int 0]) ++ List.replicate (5 - (lg_sl ([.ref h0, .int 0, .int 4, .int 0])).length) Slot.unset).toArray = ls at hl ⊢
  have hl : lv_has ls 5 [(0, .ref h0), (1, .int 0), (2, .int 4), (3, .int 0)] := hl
  refine lv_aload_n hx hb dX6_place_0 rfl (lv_at hl 0 rfl) ?_
  refine va_get (D := (dC, dI)) (ci := 5) (v := .ref oB) (C := RX6) (T := TX6) (N := 9) hx hb hts (by decide +kernel) hown hK hP 0 rfl rfl 1 (by decide) (hts (.fieldLink RX6 33 "UnibusMachine$Processor" "bus" "LUnibusMachine$Bus;") (by decide +kernel)) (fun _ h9 => h9) rfl dX6_place_1 ?_
  refine va_get (D := (dC, dI)) (ci := 0) (v := .ref oM) (C := RX0) (T := TX0) (N := 6) hx hb hts (by decide +kernel) hown hK hP 1 rfl rfl 1 (by decide) (hts (.fieldLink RX6 132 "UnibusMachine$Bus" "map" "LUnibusMachine$PageMap;") (by decide +kernel)) (fun _ h9 => h9) rfl dX6_place_4 ?_
  refine lv_iload_n hx hb dX6_place_7 rfl (lv_at hl 1 rfl) ?_
  refine lv_iload_n hx hb dX6_place_8 rfl (lv_at hl 2 rfl) ?_
  refine lv_iload_n hx hb dX6_place_9 rfl (lv_at hl 3 rfl) ?_
  have hPc := hP.sub (ws' := [(oM, .inr (3, [.ref ad, .ref ab, .int 0]))]) [2] rfl
  have hDc := hD.sub (ws' := [(oM, .inr (3, [.ref ad, .ref ab, .int 0]))]) [2] (by decide) rfl
  have hKc := hK.sub (tys' := []) [] rfl
  have hFc := va_free (wc := [(oM, .inr (3, [.ref ad, .ref ab, .int 0]))]) hD hS hA [2] rfl
  refine va_calli (va_runV (As := [.int 0, .int 4, .int 0]) (rest := []) ⟨hx, hb, hml, hown, hts⟩ (c_locate l dC dI oM ad ab 4 0 H.size) (cwV 3 hts gX6_place_X4_locate rfl rfl rfl (by decide +kernel) ⟨Nat.le_of_ble_eq_true rfl, Nat.le_of_ble_eq_true rfl⟩) ⟨fun a U g mk q => by obtain ⟨q0, q1, qP, qK, qD⟩ := q; exact ⟨q0, q1, qP, va_K.moved (u := U) (U := U.calling g mk a) (Vm.Alike.refl U.vm) qK, qD⟩, va_recv hKc hPc (ci := 3) (q0 := 0) rfl rfl, fun U hU hW => ⟨rfl, by rw [hU], by rw [hU]; exact hPc, va_K.moved hW.alike hKc, hDc.weaken (fun _ _ _ _ => trivial)⟩⟩ rfl rfl hl.1 rfl (lv_room (Nat.le_of_ble_eq_true rfl)) dX6_place_10 ⟨Nat.le_of_ble_eq_true rfl, Nat.le_of_ble_eq_true rfl⟩) hS (fun q _ h => hFc q h) hFc (fun r1 u2 t H1 locs ht hvm hw hB hz1 hk1 hS => ?_)
  obtain ⟨hP1, hK1, hD1⟩ := hB
  rw [ht] at hP1
  have hK1 := va_K.moved hvm.symm hK1
  try dsimp only at hw
  obtain ⟨hP, hD⟩ := va_join (wr := [(h0, .inr (5, [.ref ar, .ref oB, .ref oS, .int 0, .int 0, .int 0, .int ve, .int 0, .int 0])), (oB, .inr (0, [.ref am, .ref oM, .ref oS, .ref oK, .ref oL, .ref oD]))]) (w1 := [(oM, .inr (3, [.ref ad, .ref ab, .int 0]))]) hP hD [2] [0, 1] rfl rfl (by decide) (by decide) hk1 hFc hP1 hD1
  have hK := (hK.sub (tys' := []) [] rfl).app hK1
  generalize H1 = H at hP hS ⊢
  have hP : va_P (dC, dI) vwCl [(h0, .inr (5, [.ref ar, .ref oB, .ref oS, .int 0, .int 0, .int 0, .int ve, .int 0, .int 0])), (oB, .inr (0, [.ref am, .ref oM, .ref oS, .ref oK, .ref oL, .ref oD])), (oM, .inr (3, [.ref ad, .ref ab, .int 0]))] H := hP
  have hD : va_D A [(h0, .inr (5, [.ref ar, .ref oB, .ref oS, .int 0, .int 0, .int 0, .int ve, .int 0, .int 0])), (oB, .inr (0, [.ref am, .ref oM, .ref oS, .ref oK, .ref oL, .ref oD])), (oM, .inr (3, [.ref ad, .ref ab, .int 0]))] := hD
  have hK : va_K (dC, dI) vwCl [] s := hK
  refine W.widen (k := 0) (n := 0) (Nat.le_of_ble_eq_true rfl) (Nat.le_of_ble_eq_true rfl) ?_
  obtain rfl := hw
  refine lv_istore (lv' := [(4, .int 4), (0, .ref h0), (1, .int 0), (2, .int 4), (3, .int 0)]) hx hb dX6_place_13 hl (by decide) rfl (fun ls hl => ?_)
  refine lv_iload hx hb dX6_place_15 (lv_at hl 0 rfl) ?_
  refine lv_if_ge (tgt := 27) hx hb dX6_place_17 (by decide) (fun c3 => ?_) (fun c3 => ?_)
  · skip
    refine lv_iload hx hb dX6_place_27 (lv_at hl 0 rfl) ?_
    have hP9 := hP.sub (ws' := [(h0, .inr (5, [.ref ar, .ref oB, .ref oS, .int 0, .int 0, .int 0, .int ve, .int 0, .int 0])), (oB, .inr (0, [.ref am, .ref oM, .ref oS, .ref oK, .ref oL, .ref oD])), (oM, .inr (3, [.ref ad, .ref ab, .int 0]))]) [0, 1, 2] rfl
    have hD9 := hD.sub (ws' := [(h0, .inr (5, [.ref ar, .ref oB, .ref oS, .int 0, .int 0, .int 0, .int ve, .int 0, .int 0])), (oB, .inr (0, [.ref am, .ref oM, .ref oS, .ref oK, .ref oL, .ref oD])), (oM, .inr (3, [.ref ad, .ref ab, .int 0]))]) [0, 1, 2] (by decide) rfl
    have hK9 := hK.sub (tys' := []) [] rfl
    exact W.iret (v := 4) hx hb hr (fun t ht hW => ⟨⟨4, (), rfl, rfl, by rw [ht]; exact hP9, va_K.moved hW.alike hK9, hD9⟩, hS.F ht⟩) hS.2.2 dX6_place_29
  · exact absurd c3 (by decide)
set_option maxHeartbeats 4000000 in
set_option maxRecDepth 100000 in
theorem c_place6 (l : Launch) (dC : Nat → ClassId) (dI : Nat → Nat → Nat) (h0 : Nat) (ar : Nat) (oB : Nat) (oS : Nat) (ve : Int32) (am : Nat) (oM : Nat) (oK : Nat) (oL : Nat) (oD : Nat) (ad : Nat) (ab : Nat) (sz : Nat) : Met l yX6_place wsX6_place ({ frames := 1, cells := 0, slots := 0, locals := 28 } : Room) (va_Pc [.ref h0, .int 0, .int 6, .int 0] (fun U => U.heap.size = sz ∧ va_P (dC, dI) vwCl [(h0, .inr (5, [.ref ar, .ref oB, .ref oS, .int 0, .int 0, .int 0, .int ve, .int 0, .int 0])), (oB, .inr (0, [.ref am, .ref oM, .ref oS, .ref oK, .ref oL, .ref oD])), (oM, .inr (3, [.ref ad, .ref ab, .int 0]))] U.heap ∧ va_K (dC, dI) vwCl [] U ∧ va_D (fun _ => True) [(h0, .inr (5, [.ref ar, .ref oB, .ref oS, .int 0, .int 0, .int 0, .int ve, .int 0, .int 0])), (oB, .inr (0, [.ref am, .ref oM, .ref oS, .ref oK, .ref oL, .ref oD])), (oM, .inr (3, [.ref ad, .ref ab, .int 0]))])) (va_Qi (fun (r : Int32) (u : Unit) => (6 = r)) (fun (u : Unit) (t : State) => va_P (dC, dI) vwCl [(h0, .inr (5, [.ref ar, .ref oB, .ref oS, .int 0, .int 0, .int 0, .int ve, .int 0, .int 0])), (oB, .inr (0, [.ref am, .ref oM, .ref oS, .ref oK, .ref oL, .ref oD])), (oM, .inr (3, [.ref ad, .ref ab, .int 0]))] t.heap ∧ va_K (dC, dI) vwCl [] t ∧ va_D (va_A [(h0, .inr (5, [.ref ar, .ref oB, .ref oS, .int 0, .int 0, .int 0, .int ve, .int 0, .int 0])), (oB, .inr (0, [.ref am, .ref oM, .ref oS, .ref oK, .ref oL, .ref oD])), (oM, .inr (3, [.ref ad, .ref ab, .int 0]))] sz) [(h0, .inr (5, [.ref ar, .ref oB, .ref oS, .int 0, .int 0, .int 0, .int ve, .int 0, .int 0])), (oB, .inr (0, [.ref am, .ref oM, .ref oS, .ref oK, .ref oL, .ref oD])), (oM, .inr (3, [.ref ad, .ref ab, .int 0]))]) (va_A [(h0, .inr (5, [.ref ar, .ref oB, .ref oS, .int 0, .int 0, .int 0, .int ve, .int 0, .int 0])), (oB, .inr (0, [.ref am, .ref oM, .ref oS, .ref oK, .ref oL, .ref oD])), (oM, .inr (3, [.ref ad, .ref ab, .int 0]))] sz)) 0 0 (va_A [(h0, .inr (5, [.ref ar, .ref oB, .ref oS, .int 0, .int 0, .int 0, .int ve, .int 0, .int 0])), (oB, .inr (0, [.ref am, .ref oM, .ref oS, .ref oK, .ref oL, .ref oD])), (oM, .inr (3, [.ref ad, .ref ab, .int 0]))] sz) := by
  refine Met.ofW (cc := cX6_place) (maxL := 5) (ret := (some .int)) (by decide) rfl ?_
  intro p e s m args below meth c s₁ B hml hv
  obtain ⟨rfl, hsz, hP, hK, hD0⟩ := hv
  have hx := B.exec
  have hb := B.bytes
  have hr := B.returns
  have hts := atoms_spec (ws := wsX6_place) B.pre
  have hown : s.vm.findClass RX6 = some m.cls := findClass_of_methodNamed B.named
  have hlocks := B.notSynchronized
  have hD := hD0.self (sz := sz)
  generalize hAe : va_A [(h0, .inr (5, [.ref ar, .ref oB, .ref oS, .int 0, .int 0, .int 0, .int ve, .int 0, .int 0])), (oB, .inr (0, [.ref am, .ref oM, .ref oS, .ref oK, .ref oL, .ref oD])), (oM, .inr (3, [.ref ad, .ref ab, .int 0]))] sz = A at hD ⊢
  have hA : ∀ q : Nat, s.heap.size ≤ q → A q := fun q h => by rw [← hAe]; exact Or.inr (by omega)
  have hS0 : ∀ G : Heap, s.heap = G → va_S A s.heap G [] := fun G h => by subst h; exact va_S.rf
  generalize hHe : s.heap = H at hP ⊢
  have hS := hS0 H hHe
  have hP : va_P (dC, dI) vwCl [(h0, .inr (5, [.ref ar, .ref oB, .ref oS, .int 0, .int 0, .int 0, .int ve, .int 0, .int 0])), (oB, .inr (0, [.ref am, .ref oM, .ref oS, .ref oK, .ref oL, .ref oD])), (oM, .inr (3, [.ref ad, .ref ab, .int 0]))] H := hP
  have hD : va_D A [(h0, .inr (5, [.ref ar, .ref oB, .ref oS, .int 0, .int 0, .int 0, .int ve, .int 0, .int 0])), (oB, .inr (0, [.ref am, .ref oM, .ref oS, .ref oK, .ref oL, .ref oD])), (oM, .inr (3, [.ref ad, .ref ab, .int 0]))] := hD
  have hK : va_K (dC, dI) vwCl [] s := hK
  have hl := lv_entry ([.ref h0, .int 0, .int 6, .int 0]) (n := 5) (Nat.le_of_ble_eq_true rfl)
  rw [lg_entry_eq]
  generalize (lg_sl ([.ref h0, .int 0, .int 6, .int 0]) ++ List.replicate (5 - (lg_sl ([.ref h0, .int 0, .int 6, .int 0])).length) Slot.unset).toArray = ls at hl ⊢
  have hl : lv_has ls 5 [(0, .ref h0), (1, .int 0), (2, .int 6), (3, .int 0)] := hl
  refine lv_aload_n hx hb dX6_place_0 rfl (lv_at hl 0 rfl) ?_
  refine va_get (D := (dC, dI)) (ci := 5) (v := .ref oB) (C := RX6) (T := TX6) (N := 9) hx hb hts (by decide +kernel) hown hK hP 0 rfl rfl 1 (by decide) (hts (.fieldLink RX6 33 "UnibusMachine$Processor" "bus" "LUnibusMachine$Bus;") (by decide +kernel)) (fun _ h9 => h9) rfl dX6_place_1 ?_
  refine va_get (D := (dC, dI)) (ci := 0) (v := .ref oM) (C := RX0) (T := TX0) (N := 6) hx hb hts (by decide +kernel) hown hK hP 1 rfl rfl 1 (by decide) (hts (.fieldLink RX6 132 "UnibusMachine$Bus" "map" "LUnibusMachine$PageMap;") (by decide +kernel)) (fun _ h9 => h9) rfl dX6_place_4 ?_
  refine lv_iload_n hx hb dX6_place_7 rfl (lv_at hl 1 rfl) ?_
  refine lv_iload_n hx hb dX6_place_8 rfl (lv_at hl 2 rfl) ?_
  refine lv_iload_n hx hb dX6_place_9 rfl (lv_at hl 3 rfl) ?_
  have hPc := hP.sub (ws' := [(oM, .inr (3, [.ref ad, .ref ab, .int 0]))]) [2] rfl
  have hDc := hD.sub (ws' := [(oM, .inr (3, [.ref ad, .ref ab, .int 0]))]) [2] (by decide) rfl
  have hKc := hK.sub (tys' := []) [] rfl
  have hFc := va_free (wc := [(oM, .inr (3, [.ref ad, .ref ab, .int 0]))]) hD hS hA [2] rfl
  refine va_calli (va_runV (As := [.int 0, .int 6, .int 0]) (rest := []) ⟨hx, hb, hml, hown, hts⟩ (c_locate l dC dI oM ad ab 6 0 H.size) (cwV 3 hts gX6_place_X4_locate rfl rfl rfl (by decide +kernel) ⟨Nat.le_of_ble_eq_true rfl, Nat.le_of_ble_eq_true rfl⟩) ⟨fun a U g mk q => by obtain ⟨q0, q1, qP, qK, qD⟩ := q; exact ⟨q0, q1, qP, va_K.moved (u := U) (U := U.calling g mk a) (Vm.Alike.refl U.vm) qK, qD⟩, va_recv hKc hPc (ci := 3) (q0 := 0) rfl rfl, fun U hU hW => ⟨rfl, by rw [hU], by rw [hU]; exact hPc, va_K.moved hW.alike hKc, hDc.weaken (fun _ _ _ _ => trivial)⟩⟩ rfl rfl hl.1 rfl (lv_room (Nat.le_of_ble_eq_true rfl)) dX6_place_10 ⟨Nat.le_of_ble_eq_true rfl, Nat.le_of_ble_eq_true rfl⟩) hS (fun q _ h => hFc q h) hFc (fun r1 u2 t H1 locs ht hvm hw hB hz1 hk1 hS => ?_)
  obtain ⟨hP1, hK1, hD1⟩ := hB
  rw [ht] at hP1
  have hK1 := va_K.moved hvm.symm hK1
  try dsimp only at hw
  obtain ⟨hP, hD⟩ := va_join (wr := [(h0, .inr (5, [.ref ar, .ref oB, .ref oS, .int 0, .int 0, .int 0, .int ve, .int 0, .int 0])), (oB, .inr (0, [.ref am, .ref oM, .ref oS, .ref oK, .ref oL, .ref oD]))]) (w1 := [(oM, .inr (3, [.ref ad, .ref ab, .int 0]))]) hP hD [2] [0, 1] rfl rfl (by decide) (by decide) hk1 hFc hP1 hD1
  have hK := (hK.sub (tys' := []) [] rfl).app hK1
  generalize H1 = H at hP hS ⊢
  have hP : va_P (dC, dI) vwCl [(h0, .inr (5, [.ref ar, .ref oB, .ref oS, .int 0, .int 0, .int 0, .int ve, .int 0, .int 0])), (oB, .inr (0, [.ref am, .ref oM, .ref oS, .ref oK, .ref oL, .ref oD])), (oM, .inr (3, [.ref ad, .ref ab, .int 0]))] H := hP
  have hD : va_D A [(h0, .inr (5, [.ref ar, .ref oB, .ref oS, .int 0, .int 0, .int 0, .int ve, .int 0, .int 0])), (oB, .inr (0, [.ref am, .ref oM, .ref oS, .ref oK, .ref oL, .ref oD])), (oM, .inr (3, [.ref ad, .ref ab, .int 0]))] := hD
  have hK : va_K (dC, dI) vwCl [] s := hK
  refine W.widen (k := 0) (n := 0) (Nat.le_of_ble_eq_true rfl) (Nat.le_of_ble_eq_true rfl) ?_
  obtain rfl := hw
  refine lv_istore (lv' := [(4, .int 6), (0, .ref h0), (1, .int 0), (2, .int 6), (3, .int 0)]) hx hb dX6_place_13 hl (by decide) rfl (fun ls hl => ?_)
  refine lv_iload hx hb dX6_place_15 (lv_at hl 0 rfl) ?_
  refine lv_if_ge (tgt := 27) hx hb dX6_place_17 (by decide) (fun c3 => ?_) (fun c3 => ?_)
  · skip
    refine lv_iload hx hb dX6_place_27 (lv_at hl 0 rfl) ?_
    have hP9 := hP.sub (ws' := [(h0, .inr (5, [.ref ar, .ref oB, .ref oS, .int 0, .int 0, .int 0, .int ve, .int 0, .int 0])), (oB, .inr (0, [.ref am, .ref oM, .ref oS, .ref oK, .ref oL, .ref oD])), (oM, .inr (3, [.ref ad, .ref ab, .int 0]))]) [0, 1, 2] rfl
    have hD9 := hD.sub (ws' := [(h0, .inr (5, [.ref ar, .ref oB, .ref oS, .int 0, .int 0, .int 0, .int ve, .int 0, .int 0])), (oB, .inr (0, [.ref am, .ref oM, .ref oS, .ref oK, .ref oL, .ref oD])), (oM, .inr (3, [.ref ad, .ref ab, .int 0]))]) [0, 1, 2] (by decide) rfl
    have hK9 := hK.sub (tys' := []) [] rfl
    exact W.iret (v := 6) hx hb hr (fun t ht hW => ⟨⟨6, (), rfl, rfl, by rw [ht]; exact hP9, va_K.moved hW.alike hK9, hD9⟩, hS.F ht⟩) hS.2.2 dX6_place_29
  · exact absurd c3 (by decide)
set_option maxHeartbeats 4000000 in
set_option maxRecDepth 100000 in
theorem c_placeW (l : Launch) (dC : Nat → ClassId) (dI : Nat → Nat → Nat) (h0 : Nat) (ar : Nat) (oB : Nat) (oS : Nat) (ve : Int32) (am : Nat) (oM : Nat) (oK : Nat) (oL : Nat) (oD : Nat) (ad : Nat) (ab : Nat) (a0 : Int32) (sz : Nat) (hH0 : 0 ≤ a0.toInt) : Met l yX6_place wsX6_place ({ frames := 1, cells := 0, slots := 0, locals := 28 } : Room) (va_Pc [.ref h0, .int 0, .int a0, .int 1] (fun U => U.heap.size = sz ∧ va_P (dC, dI) vwCl [(h0, .inr (5, [.ref ar, .ref oB, .ref oS, .int 0, .int 0, .int 0, .int ve, .int 0, .int 0])), (oB, .inr (0, [.ref am, .ref oM, .ref oS, .ref oK, .ref oL, .ref oD])), (oM, .inr (3, [.ref ad, .ref ab, .int 0]))] U.heap ∧ va_K (dC, dI) vwCl [] U ∧ va_D (fun _ => True) [(h0, .inr (5, [.ref ar, .ref oB, .ref oS, .int 0, .int 0, .int 0, .int ve, .int 0, .int 0])), (oB, .inr (0, [.ref am, .ref oM, .ref oS, .ref oK, .ref oL, .ref oD])), (oM, .inr (3, [.ref ad, .ref ab, .int 0]))])) (va_Qi (fun (r : Int32) (u : Unit) => (a0 = r)) (fun (u : Unit) (t : State) => va_P (dC, dI) vwCl [(h0, .inr (5, [.ref ar, .ref oB, .ref oS, .int 0, .int 0, .int 0, .int ve, .int 0, .int 0])), (oB, .inr (0, [.ref am, .ref oM, .ref oS, .ref oK, .ref oL, .ref oD])), (oM, .inr (3, [.ref ad, .ref ab, .int 0]))] t.heap ∧ va_K (dC, dI) vwCl [] t ∧ va_D (va_A [(h0, .inr (5, [.ref ar, .ref oB, .ref oS, .int 0, .int 0, .int 0, .int ve, .int 0, .int 0])), (oB, .inr (0, [.ref am, .ref oM, .ref oS, .ref oK, .ref oL, .ref oD])), (oM, .inr (3, [.ref ad, .ref ab, .int 0]))] sz) [(h0, .inr (5, [.ref ar, .ref oB, .ref oS, .int 0, .int 0, .int 0, .int ve, .int 0, .int 0])), (oB, .inr (0, [.ref am, .ref oM, .ref oS, .ref oK, .ref oL, .ref oD])), (oM, .inr (3, [.ref ad, .ref ab, .int 0]))]) (va_A [(h0, .inr (5, [.ref ar, .ref oB, .ref oS, .int 0, .int 0, .int 0, .int ve, .int 0, .int 0])), (oB, .inr (0, [.ref am, .ref oM, .ref oS, .ref oK, .ref oL, .ref oD])), (oM, .inr (3, [.ref ad, .ref ab, .int 0]))] sz)) 0 0 (va_A [(h0, .inr (5, [.ref ar, .ref oB, .ref oS, .int 0, .int 0, .int 0, .int ve, .int 0, .int 0])), (oB, .inr (0, [.ref am, .ref oM, .ref oS, .ref oK, .ref oL, .ref oD])), (oM, .inr (3, [.ref ad, .ref ab, .int 0]))] sz) := by
  refine Met.ofW (cc := cX6_place) (maxL := 5) (ret := (some .int)) (by decide) rfl ?_
  intro p e s m args below meth c s₁ B hml hv
  obtain ⟨rfl, hsz, hP, hK, hD0⟩ := hv
  have hx := B.exec
  have hb := B.bytes
  have hr := B.returns
  have hts := atoms_spec (ws := wsX6_place) B.pre
  have hown : s.vm.findClass RX6 = some m.cls := findClass_of_methodNamed B.named
  have hlocks := B.notSynchronized
  have hD := hD0.self (sz := sz)
  generalize hAe : va_A [(h0, .inr (5, [.ref ar, .ref oB, .ref oS, .int 0, .int 0, .int 0, .int ve, .int 0, .int 0])), (oB, .inr (0, [.ref am, .ref oM, .ref oS, .ref oK, .ref oL, .ref oD])), (oM, .inr (3, [.ref ad, .ref ab, .int 0]))] sz = A at hD ⊢
  have hA : ∀ q : Nat, s.heap.size ≤ q → A q := fun q h => by rw [← hAe]; exact Or.inr (by omega)
  have hS0 : ∀ G : Heap, s.heap = G → va_S A s.heap G [] := fun G h => by subst h; exact va_S.rf
  generalize hHe : s.heap = H at hP ⊢
  have hS := hS0 H hHe
  have hP : va_P (dC, dI) vwCl [(h0, .inr (5, [.ref ar, .ref oB, .ref oS, .int 0, .int 0, .int 0, .int ve, .int 0, .int 0])), (oB, .inr (0, [.ref am, .ref oM, .ref oS, .ref oK, .ref oL, .ref oD])), (oM, .inr (3, [.ref ad, .ref ab, .int 0]))] H := hP
  have hD : va_D A [(h0, .inr (5, [.ref ar, .ref oB, .ref oS, .int 0, .int 0, .int 0, .int ve, .int 0, .int 0])), (oB, .inr (0, [.ref am, .ref oM, .ref oS, .ref oK, .ref oL, .ref oD])), (oM, .inr (3, [.ref ad, .ref ab, .int 0]))] := hD
  have hK : va_K (dC, dI) vwCl [] s := hK
  have hl := lv_entry ([.ref h0, .int 0, .int a0, .int 1]) (n := 5) (Nat.le_of_ble_eq_true rfl)
  rw [lg_entry_eq]
  generalize (lg_sl ([.ref h0, .int 0, .int a0, .int 1]) ++ List.replicate (5 - (lg_sl ([.ref h0, .int 0, .int a0, .int 1])).length) Slot.unset).toArray = ls at hl ⊢
  have hl : lv_has ls 5 [(0, .ref h0), (1, .int 0), (2, .int a0), (3, .int 1)] := hl
  refine lv_aload_n hx hb dX6_place_0 rfl (lv_at hl 0 rfl) ?_
  refine va_get (D := (dC, dI)) (ci := 5) (v := .ref oB) (C := RX6) (T := TX6) (N := 9) hx hb hts (by decide +kernel) hown hK hP 0 rfl rfl 1 (by decide) (hts (.fieldLink RX6 33 "UnibusMachine$Processor" "bus" "LUnibusMachine$Bus;") (by decide +kernel)) (fun _ h9 => h9) rfl dX6_place_1 ?_
  refine va_get (D := (dC, dI)) (ci := 0) (v := .ref oM) (C := RX0) (T := TX0) (N := 6) hx hb hts (by decide +kernel) hown hK hP 1 rfl rfl 1 (by decide) (hts (.fieldLink RX6 132 "UnibusMachine$Bus" "map" "LUnibusMachine$PageMap;") (by decide +kernel)) (fun _ h9 => h9) rfl dX6_place_4 ?_
  refine lv_iload_n hx hb dX6_place_7 rfl (lv_at hl 1 rfl) ?_
  refine lv_iload_n hx hb dX6_place_8 rfl (lv_at hl 2 rfl) ?_
  refine lv_iload_n hx hb dX6_place_9 rfl (lv_at hl 3 rfl) ?_
  have hPc := hP.sub (ws' := [(oM, .inr (3, [.ref ad, .ref ab, .int 0]))]) [2] rfl
  have hDc := hD.sub (ws' := [(oM, .inr (3, [.ref ad, .ref ab, .int 0]))]) [2] (by decide) rfl
  have hKc := hK.sub (tys' := []) [] rfl
  have hFc := va_free (wc := [(oM, .inr (3, [.ref ad, .ref ab, .int 0]))]) hD hS hA [2] rfl
  refine va_calli (va_runV (As := [.int 0, .int a0, .int 1]) (rest := []) ⟨hx, hb, hml, hown, hts⟩ (c_locate l dC dI oM ad ab a0 1 H.size) (cwV 3 hts gX6_place_X4_locate rfl rfl rfl (by decide +kernel) ⟨Nat.le_of_ble_eq_true rfl, Nat.le_of_ble_eq_true rfl⟩) ⟨fun a U g mk q => by obtain ⟨q0, q1, qP, qK, qD⟩ := q; exact ⟨q0, q1, qP, va_K.moved (u := U) (U := U.calling g mk a) (Vm.Alike.refl U.vm) qK, qD⟩, va_recv hKc hPc (ci := 3) (q0 := 0) rfl rfl, fun U hU hW => ⟨rfl, by rw [hU], by rw [hU]; exact hPc, va_K.moved hW.alike hKc, hDc.weaken (fun _ _ _ _ => trivial)⟩⟩ rfl rfl hl.1 rfl (lv_room (Nat.le_of_ble_eq_true rfl)) dX6_place_10 ⟨Nat.le_of_ble_eq_true rfl, Nat.le_of_ble_eq_true rfl⟩) hS (fun q _ h => hFc q h) hFc (fun r1 u2 t H1 locs ht hvm hw hB hz1 hk1 hS => ?_)
  obtain ⟨hP1, hK1, hD1⟩ := hB
  rw [ht] at hP1
  have hK1 := va_K.moved hvm.symm hK1
  try dsimp only at hw
  obtain ⟨hP, hD⟩ := va_join (wr := [(h0, .inr (5, [.ref ar, .ref oB, .ref oS, .int 0, .int 0, .int 0, .int ve, .int 0, .int 0])), (oB, .inr (0, [.ref am, .ref oM, .ref oS, .ref oK, .ref oL, .ref oD]))]) (w1 := [(oM, .inr (3, [.ref ad, .ref ab, .int 0]))]) hP hD [2] [0, 1] rfl rfl (by decide) (by decide) hk1 hFc hP1 hD1
  have hK := (hK.sub (tys' := []) [] rfl).app hK1
  generalize H1 = H at hP hS ⊢
  have hP : va_P (dC, dI) vwCl [(h0, .inr (5, [.ref ar, .ref oB, .ref oS, .int 0, .int 0, .int 0, .int ve, .int 0, .int 0])), (oB, .inr (0, [.ref am, .ref oM, .ref oS, .ref oK, .ref oL, .ref oD])), (oM, .inr (3, [.ref ad, .ref ab, .int 0]))] H := hP
  have hD : va_D A [(h0, .inr (5, [.ref ar, .ref oB, .ref oS, .int 0, .int 0, .int 0, .int ve, .int 0, .int 0])), (oB, .inr (0, [.ref am, .ref oM, .ref oS, .ref oK, .ref oL, .ref oD])), (oM, .inr (3, [.ref ad, .ref ab, .int 0]))] := hD
  have hK : va_K (dC, dI) vwCl [] s := hK
  refine W.widen (k := 0) (n := 0) (Nat.le_of_ble_eq_true rfl) (Nat.le_of_ble_eq_true rfl) ?_
  obtain rfl := hw
  refine lv_istore (lv' := [(4, .int a0), (0, .ref h0), (1, .int 0), (2, .int a0), (3, .int 1)]) hx hb dX6_place_13 hl (by decide) rfl (fun ls hl => ?_)
  refine lv_iload hx hb dX6_place_15 (lv_at hl 0 rfl) ?_
  refine lv_if_ge (tgt := 27) hx hb dX6_place_17 (by decide) (fun c3 => ?_) (fun c3 => ?_)
  · have c3 := fz_le.mp c3
    have kk0 : (0 : Int32).toInt = 0 := by decide
    refine lv_iload hx hb dX6_place_27 (lv_at hl 0 rfl) ?_
    have hP9 := hP.sub (ws' := [(h0, .inr (5, [.ref ar, .ref oB, .ref oS, .int 0, .int 0, .int 0, .int ve, .int 0, .int 0])), (oB, .inr (0, [.ref am, .ref oM, .ref oS, .ref oK, .ref oL, .ref oD])), (oM, .inr (3, [.ref ad, .ref ab, .int 0]))]) [0, 1, 2] rfl
    have hD9 := hD.sub (ws' := [(h0, .inr (5, [.ref ar, .ref oB, .ref oS, .int 0, .int 0, .int 0, .int ve, .int 0, .int 0])), (oB, .inr (0, [.ref am, .ref oM, .ref oS, .ref oK, .ref oL, .ref oD])), (oM, .inr (3, [.ref ad, .ref ab, .int 0]))]) [0, 1, 2] (by decide) rfl
    have hK9 := hK.sub (tys' := []) [] rfl
    exact W.iret (v := a0) hx hb hr (fun t ht hW => ⟨⟨a0, (), rfl, (by first | rfl | omega | assumption), by rw [ht]; exact hP9, va_K.moved hW.alike hK9, hD9⟩, hS.F ht⟩) hS.2.2 dX6_place_29
  · have c3 := fz_nle.mp c3
    have kk0 : (0 : Int32).toInt = 0 := by decide
    exact False.elim (by omega)
set_option maxHeartbeats 4000000 in
set_option maxRecDepth 100000 in
theorem c_readWord4 (l : Launch) (dC : Nat → ClassId) (dI : Nat → Nat → Nat) (h0 : Nat) (ar : Nat) (oB : Nat) (oS : Nat) (ve : Int32) (am : Nat) (oM : Nat) (oK : Nat) (oL : Nat) (oD : Nat) (ad : Nat) (ab : Nat) (tm : ClassId) (f : Nat → Int32) (sz : Nat) (hF0 : f (2 : Int32).toNatClampNeg = 1) : Met l yX6_readWord wsX6_readWord ({ frames := 2, cells := 0, slots := 0, locals := 52 } : Room) (va_Pc [.ref h0, .int 0, .int 4] (fun U => U.heap.size = sz ∧ va_P (dC, dI) vwCl [(h0, .inr (5, [.ref ar, .ref oB, .ref oS, .int 0, .int 0, .int 0, .int ve, .int 0, .int 0])), (oB, .inr (0, [.ref am, .ref oM, .ref oS, .ref oK, .ref oL, .ref oD])), (oM, .inr (3, [.ref ad, .ref ab, .int 0])), (am, .inl (tm, 512, .inl f))] U.heap ∧ va_K (dC, dI) vwCl [(tm, .int)] U ∧ va_D (fun _ => True) [(h0, .inr (5, [.ref ar, .ref oB, .ref oS, .int 0, .int 0, .int 0, .int ve, .int 0, .int 0])), (oB, .inr (0, [.ref am, .ref oM, .ref oS, .ref oK, .ref oL, .ref oD])), (oM, .inr (3, [.ref ad, .ref ab, .int 0])), (am, .inl (tm, 512, .inl f))])) (va_Qi (fun (r : Int32) (u : Unit) => (1 = r)) (fun (u : Unit) (t : State) => va_P (dC, dI) vwCl [(h0, .inr (5, [.ref ar, .ref oB, .ref oS, .int 0, .int 0, .int 0, .int ve, .int 0, .int 0])), (oB, .inr (0, [.ref am, .ref oM, .ref oS, .ref oK, .ref oL, .ref oD])), (oM, .inr (3, [.ref ad, .ref ab, .int 0])), (am, .inl (tm, 512, .inl f))] t.heap ∧ va_K (dC, dI) vwCl [(tm, .int)] t ∧ va_D (va_A [(h0, .inr (5, [.ref ar, .ref oB, .ref oS, .int 0, .int 0, .int 0, .int ve, .int 0, .int 0])), (oB, .inr (0, [.ref am, .ref oM, .ref oS, .ref oK, .ref oL, .ref oD])), (oM, .inr (3, [.ref ad, .ref ab, .int 0])), (am, .inl (tm, 512, .inl f))] sz) [(h0, .inr (5, [.ref ar, .ref oB, .ref oS, .int 0, .int 0, .int 0, .int ve, .int 0, .int 0])), (oB, .inr (0, [.ref am, .ref oM, .ref oS, .ref oK, .ref oL, .ref oD])), (oM, .inr (3, [.ref ad, .ref ab, .int 0])), (am, .inl (tm, 512, .inl f))]) (va_A [(h0, .inr (5, [.ref ar, .ref oB, .ref oS, .int 0, .int 0, .int 0, .int ve, .int 0, .int 0])), (oB, .inr (0, [.ref am, .ref oM, .ref oS, .ref oK, .ref oL, .ref oD])), (oM, .inr (3, [.ref ad, .ref ab, .int 0])), (am, .inl (tm, 512, .inl f))] sz)) 0 0 (va_A [(h0, .inr (5, [.ref ar, .ref oB, .ref oS, .int 0, .int 0, .int 0, .int ve, .int 0, .int 0])), (oB, .inr (0, [.ref am, .ref oM, .ref oS, .ref oK, .ref oL, .ref oD])), (oM, .inr (3, [.ref ad, .ref ab, .int 0])), (am, .inl (tm, 512, .inl f))] sz) := by
  refine Met.ofW (cc := cX6_readWord) (maxL := 4) (ret := (some .int)) (by decide) rfl ?_
  intro p e s m args below meth c s₁ B hml hv
  obtain ⟨rfl, hsz, hP, hK, hD0⟩ := hv
  have hx := B.exec
  have hb := B.bytes
  have hr := B.returns
  have hts := atoms_spec (ws := wsX6_readWord) B.pre
  have hown : s.vm.findClass RX6 = some m.cls := findClass_of_methodNamed B.named
  have hlocks := B.notSynchronized
  have hD := hD0.self (sz := sz)
  generalize hAe : va_A [(h0, .inr (5, [.ref ar, .ref oB, .ref oS, .int 0, .int 0, .int 0, .int ve, .int 0, .int 0])), (oB, .inr (0, [.ref am, .ref oM, .ref oS, .ref oK, .ref oL, .ref oD])), (oM, .inr (3, [.ref ad, .ref ab, .int 0])), (am, .inl (tm, 512, .inl f))] sz = A at hD ⊢
  have hA : ∀ q : Nat, s.heap.size ≤ q → A q := fun q h => by rw [← hAe]; exact Or.inr (by omega)
  have hS0 : ∀ G : Heap, s.heap = G → va_S A s.heap G [] := fun G h => by subst h; exact va_S.rf
  generalize hHe : s.heap = H at hP ⊢
  have hS := hS0 H hHe
  have hP : va_P (dC, dI) vwCl [(h0, .inr (5, [.ref ar, .ref oB, .ref oS, .int 0, .int 0, .int 0, .int ve, .int 0, .int 0])), (oB, .inr (0, [.ref am, .ref oM, .ref oS, .ref oK, .ref oL, .ref oD])), (oM, .inr (3, [.ref ad, .ref ab, .int 0])), (am, .inl (tm, 512, .inl f))] H := hP
  have hD : va_D A [(h0, .inr (5, [.ref ar, .ref oB, .ref oS, .int 0, .int 0, .int 0, .int ve, .int 0, .int 0])), (oB, .inr (0, [.ref am, .ref oM, .ref oS, .ref oK, .ref oL, .ref oD])), (oM, .inr (3, [.ref ad, .ref ab, .int 0])), (am, .inl (tm, 512, .inl f))] := hD
  have hK : va_K (dC, dI) vwCl [(tm, .int)] s := hK
  have hl := lv_entry ([.ref h0, .int 0, .int 4]) (n := 4) (Nat.le_of_ble_eq_true rfl)
  rw [lg_entry_eq]
  generalize (lg_sl ([.ref h0, .int 0, .int 4]) ++ List.replicate (4 - (lg_sl ([.ref h0, .int 0, .int 4])).length) Slot.unset).toArray = ls at hl ⊢
  have hl : lv_has ls 4 [(0, .ref h0), (1, .int 0), (2, .int 4)] := hl
  refine lv_iload_n hx hb dX6_readWord_0 rfl (lv_at hl 2 rfl) ?_
  refine lv_iconst (v := 1) hx hb dX6_readWord_1 (by decide) ?_
  refine lv_iand hx hb dX6_readWord_2 ?_
  refine lv_topi (fun y1 ey1 => ?_)
  obtain rfl : y1 = 0 := by rw [ey1]; decide
  refine lv_if_eq (tgt := 11) hx hb dX6_readWord_3 (by decide) (fun c2 => ?_) (fun c2 => ?_)
  · skip
    refine lv_aload_n hx hb dX6_readWord_11 rfl (lv_at hl 0 rfl) ?_
    refine va_get (D := (dC, dI)) (ci := 5) (v := .ref oB) (C := RX6) (T := TX6) (N := 9) hx hb hts (by decide +kernel) hown hK hP 0 rfl rfl 1 (by decide) (hts (.fieldLink RX6 33 "UnibusMachine$Processor" "bus" "LUnibusMachine$Bus;") (by decide +kernel)) (fun _ h9 => h9) rfl dX6_readWord_12 ?_
    refine lv_aload_n hx hb dX6_readWord_15 rfl (lv_at hl 0 rfl) ?_
    refine lv_iload_n hx hb dX6_readWord_16 rfl (lv_at hl 1 rfl) ?_
    refine lv_iload_n hx hb dX6_readWord_17 rfl (lv_at hl 2 rfl) ?_
    refine lv_iconst (v := 0) hx hb dX6_readWord_18 (by decide) ?_
    have hPc := hP.sub (ws' := [(h0, .inr (5, [.ref ar, .ref oB, .ref oS, .int 0, .int 0, .int 0, .int ve, .int 0, .int 0])), (oB, .inr (0, [.ref am, .ref oM, .ref oS, .ref oK, .ref oL, .ref oD])), (oM, .inr (3, [.ref ad, .ref ab, .int 0]))]) [0, 1, 2] rfl
    have hDc := hD.sub (ws' := [(h0, .inr (5, [.ref ar, .ref oB, .ref oS, .int 0, .int 0, .int 0, .int ve, .int 0, .int 0])), (oB, .inr (0, [.ref am, .ref oM, .ref oS, .ref oK, .ref oL, .ref oD])), (oM, .inr (3, [.ref ad, .ref ab, .int 0]))]) [0, 1, 2] (by decide) rfl
    have hKc := hK.sub (tys' := []) [] rfl
    have hFc := va_free (wc := [(h0, .inr (5, [.ref ar, .ref oB, .ref oS, .int 0, .int 0, .int 0, .int ve, .int 0, .int 0])), (oB, .inr (0, [.ref am, .ref oM, .ref oS, .ref oK, .ref oL, .ref oD])), (oM, .inr (3, [.ref ad, .ref ab, .int 0]))]) hD hS hA [0, 1, 2] rfl
    refine va_calli (va_runV (As := [.int 0, .int 4, .int 0]) (rest := [.ref oB]) ⟨hx, hb, hml, hown, hts⟩ (c_place4 l dC dI h0 ar oB oS ve am oM oK oL oD ad ab H.size) (cwV 3 hts gX6_readWord_X6_place rfl rfl rfl (by decide +kernel) ⟨Nat.le_of_ble_eq_true rfl, Nat.le_of_ble_eq_true rfl⟩) ⟨fun a U g mk q => by obtain ⟨q0, q1, qP, qK, qD⟩ := q; exact ⟨q0, q1, qP, va_K.moved (u := U) (U := U.calling g mk a) (Vm.Alike.refl U.vm) qK, qD⟩, va_recv hKc hPc (ci := 5) (q0 := 0) rfl rfl, fun U hU hW => ⟨rfl, by rw [hU], by rw [hU]; exact hPc, va_K.moved hW.alike hKc, hDc.weaken (fun _ _ _ _ => trivial)⟩⟩ rfl rfl hl.1 rfl (lv_room (Nat.le_of_ble_eq_true rfl)) dX6_readWord_19 ⟨Nat.le_of_ble_eq_true rfl, Nat.le_of_ble_eq_true rfl⟩) hS (fun q _ h => hFc q h) hFc (fun r3 u4 t H1 locs ht hvm hw hB hz1 hk1 hS => ?_)
    obtain ⟨hP1, hK1, hD1⟩ := hB
    rw [ht] at hP1
    have hK1 := va_K.moved hvm.symm hK1
    try dsimp only at hw
    obtain ⟨hP, hD⟩ := va_join (wr := [(am, .inl (tm, 512, .inl f))]) (w1 := [(h0, .inr (5, [.ref ar, .ref oB, .ref oS, .int 0, .int 0, .int 0, .int ve, .int 0, .int 0])), (oB, .inr (0, [.ref am, .ref oM, .ref oS, .ref oK, .ref oL, .ref oD])), (oM, .inr (3, [.ref ad, .ref ab, .int 0]))]) hP hD [0, 1, 2] [3] rfl rfl (by decide) (by decide) hk1 hFc hP1 hD1
    have hK := (hK.sub (tys' := [(tm, .int)]) [0] rfl).app hK1
    generalize H1 = H at hP hS ⊢
    have hP : va_P (dC, dI) vwCl [(am, .inl (tm, 512, .inl f)), (h0, .inr (5, [.ref ar, .ref oB, .ref oS, .int 0, .int 0, .int 0, .int ve, .int 0, .int 0])), (oB, .inr (0, [.ref am, .ref oM, .ref oS, .ref oK, .ref oL, .ref oD])), (oM, .inr (3, [.ref ad, .ref ab, .int 0]))] H := hP
    have hD : va_D A [(am, .inl (tm, 512, .inl f)), (h0, .inr (5, [.ref ar, .ref oB, .ref oS, .int 0, .int 0, .int 0, .int ve, .int 0, .int 0])), (oB, .inr (0, [.ref am, .ref oM, .ref oS, .ref oK, .ref oL, .ref oD])), (oM, .inr (3, [.ref ad, .ref ab, .int 0]))] := hD
    have hK : va_K (dC, dI) vwCl [(tm, .int)] s := hK
    refine W.widen (k := 0) (n := 0) (Nat.le_of_ble_eq_true rfl) (Nat.le_of_ble_eq_true rfl) ?_
    obtain rfl := hw
    have hPc := hP.sub (ws' := [(oB, .inr (0, [.ref am, .ref oM, .ref oS, .ref oK, .ref oL, .ref oD])), (am, .inl (tm, 512, .inl f))]) [2, 0] rfl
    have hDc := hD.sub (ws' := [(oB, .inr (0, [.ref am, .ref oM, .ref oS, .ref oK, .ref oL, .ref oD])), (am, .inl (tm, 512, .inl f))]) [2, 0] (by decide) rfl
    have hKc := hK.sub (tys' := [(tm, .int)]) [0] rfl
    have hFc := va_free (wc := [(oB, .inr (0, [.ref am, .ref oM, .ref oS, .ref oK, .ref oL, .ref oD])), (am, .inl (tm, 512, .inl f))]) hD hS hA [2, 0] rfl
    refine va_calli (va_runV (As := [.int 4]) (rest := []) ⟨hx, hb, hml, hown, hts⟩ (c_read4 l dC dI oB am oM oS oK oL oD tm f H.size (by first | assumption | omega | decide)) (cwV 1 hts gX6_readWord_X0_read rfl rfl rfl (by decide +kernel) ⟨Nat.le_of_ble_eq_true rfl, Nat.le_of_ble_eq_true rfl⟩) ⟨fun a U g mk q => by obtain ⟨q0, q1, qP, qK, qD⟩ := q; exact ⟨q0, q1, qP, va_K.moved (u := U) (U := U.calling g mk a) (Vm.Alike.refl U.vm) qK, qD⟩, va_recv hKc hPc (ci := 0) (q0 := 0) rfl rfl, fun U hU hW => ⟨rfl, by rw [hU], by rw [hU]; exact hPc, va_K.moved hW.alike hKc, hDc.weaken (fun _ _ _ _ => trivial)⟩⟩ rfl rfl hl.1 rfl (lv_room (Nat.le_of_ble_eq_true rfl)) dX6_readWord_22 ⟨Nat.le_of_ble_eq_true rfl, Nat.le_of_ble_eq_true rfl⟩) hS (fun q _ h => hFc q h) hFc (fun r5 u6 t H1 locs ht hvm hw hB hz1 hk1 hS => ?_)
    obtain ⟨hP1, hK1, hD1⟩ := hB
    rw [ht] at hP1
    have hK1 := va_K.moved hvm.symm hK1
    try dsimp only at hw
    obtain ⟨hP, hD⟩ := va_join (wr := [(h0, .inr (5, [.ref ar, .ref oB, .ref oS, .int 0, .int 0, .int 0, .int ve, .int 0, .int 0])), (oM, .inr (3, [.ref ad, .ref ab, .int 0]))]) (w1 := [(oB, .inr (0, [.ref am, .ref oM, .ref oS, .ref oK, .ref oL, .ref oD])), (am, .inl (tm, 512, .inl f))]) hP hD [2, 0] [1, 3] rfl rfl (by decide) (by decide) hk1 hFc hP1 hD1
    have hK := (hK.sub (tys' := []) [] rfl).app hK1
    generalize H1 = H at hP hS ⊢
    have hP : va_P (dC, dI) vwCl [(h0, .inr (5, [.ref ar, .ref oB, .ref oS, .int 0, .int 0, .int 0, .int ve, .int 0, .int 0])), (oM, .inr (3, [.ref ad, .ref ab, .int 0])), (oB, .inr (0, [.ref am, .ref oM, .ref oS, .ref oK, .ref oL, .ref oD])), (am, .inl (tm, 512, .inl f))] H := hP
    have hD : va_D A [(h0, .inr (5, [.ref ar, .ref oB, .ref oS, .int 0, .int 0, .int 0, .int ve, .int 0, .int 0])), (oM, .inr (3, [.ref ad, .ref ab, .int 0])), (oB, .inr (0, [.ref am, .ref oM, .ref oS, .ref oK, .ref oL, .ref oD])), (am, .inl (tm, 512, .inl f))] := hD
    have hK : va_K (dC, dI) vwCl [(tm, .int)] s := hK
    refine W.widen (k := 0) (n := 0) (Nat.le_of_ble_eq_true rfl) (Nat.le_of_ble_eq_true rfl) ?_
    obtain rfl := hw
    refine lv_istore_n (lv' := [(3, .int 1), (0, .ref h0), (1, .int 0), (2, .int 4)]) hx hb dX6_readWord_25 rfl hl (by decide) rfl (fun ls hl => ?_)
    refine lv_iload_n hx hb dX6_readWord_26 rfl (lv_at hl 0 rfl) ?_
    refine lv_if_ge (tgt := 35) hx hb dX6_readWord_27 (by decide) (fun c7 => ?_) (fun c7 => ?_)
    · skip
      refine lv_iload_n hx hb dX6_readWord_35 rfl (lv_at hl 0 rfl) ?_
      have hP9 := hP.sub (ws' := [(h0, .inr (5, [.ref ar, .ref oB, .ref oS, .int 0, .int 0, .int 0, .int ve, .int 0, .int 0])), (oB, .inr (0, [.ref am, .ref oM, .ref oS, .ref oK, .ref oL, .ref oD])), (oM, .inr (3, [.ref ad, .ref ab, .int 0])), (am, .inl (tm, 512, .inl f))]) [0, 2, 1, 3] rfl
      have hD9 := hD.sub (ws' := [(h0, .inr (5, [.ref ar, .ref oB, .ref oS, .int 0, .int 0, .int 0, .int ve, .int 0, .int 0])), (oB, .inr (0, [.ref am, .ref oM, .ref oS, .ref oK, .ref oL, .ref oD])), (oM, .inr (3, [.ref ad, .ref ab, .int 0])), (am, .inl (tm, 512, .inl f))]) [0, 2, 1, 3] (by decide) rfl
      have hK9 := hK.sub (tys' := [(tm, .int)]) [0] rfl
      exact W.iret (v := 1) hx hb hr (fun t ht hW => ⟨⟨1, (), rfl, rfl, by rw [ht]; exact hP9, va_K.moved hW.alike hK9, hD9⟩, hS.F ht⟩) hS.2.2 dX6_readWord_36
    · exact absurd c7 (by decide)
  · exact absurd c2 (by decide)
set_option maxHeartbeats 4000000 in
set_option maxRecDepth 100000 in
theorem c_readWord6 (l : Launch) (dC : Nat → ClassId) (dI : Nat → Nat → Nat) (h0 : Nat) (ar : Nat) (oB : Nat) (oS : Nat) (ve : Int32) (am : Nat) (oM : Nat) (oK : Nat) (oL : Nat) (oD : Nat) (ad : Nat) (ab : Nat) (tm : ClassId) (f : Nat → Int32) (sz : Nat) (hF0 : f (3 : Int32).toNatClampNeg = 224) : Met l yX6_readWord wsX6_readWord ({ frames := 2, cells := 0, slots := 0, locals := 52 } : Room) (va_Pc [.ref h0, .int 0, .int 6] (fun U => U.heap.size = sz ∧ va_P (dC, dI) vwCl [(h0, .inr (5, [.ref ar, .ref oB, .ref oS, .int 0, .int 0, .int 0, .int ve, .int 0, .int 0])), (oB, .inr (0, [.ref am, .ref oM, .ref oS, .ref oK, .ref oL, .ref oD])), (oM, .inr (3, [.ref ad, .ref ab, .int 0])), (am, .inl (tm, 512, .inl f))] U.heap ∧ va_K (dC, dI) vwCl [(tm, .int)] U ∧ va_D (fun _ => True) [(h0, .inr (5, [.ref ar, .ref oB, .ref oS, .int 0, .int 0, .int 0, .int ve, .int 0, .int 0])), (oB, .inr (0, [.ref am, .ref oM, .ref oS, .ref oK, .ref oL, .ref oD])), (oM, .inr (3, [.ref ad, .ref ab, .int 0])), (am, .inl (tm, 512, .inl f))])) (va_Qi (fun (r : Int32) (u : Unit) => (224 = r)) (fun (u : Unit) (t : State) => va_P (dC, dI) vwCl [(h0, .inr (5, [.ref ar, .ref oB, .ref oS, .int 0, .int 0, .int 0, .int ve, .int 0, .int 0])), (oB, .inr (0, [.ref am, .ref oM, .ref oS, .ref oK, .ref oL, .ref oD])), (oM, .inr (3, [.ref ad, .ref ab, .int 0])), (am, .inl (tm, 512, .inl f))] t.heap ∧ va_K (dC, dI) vwCl [(tm, .int)] t ∧ va_D (va_A [(h0, .inr (5, [.ref ar, .ref oB, .ref oS, .int 0, .int 0, .int 0, .int ve, .int 0, .int 0])), (oB, .inr (0, [.ref am, .ref oM, .ref oS, .ref oK, .ref oL, .ref oD])), (oM, .inr (3, [.ref ad, .ref ab, .int 0])), (am, .inl (tm, 512, .inl f))] sz) [(h0, .inr (5, [.ref ar, .ref oB, .ref oS, .int 0, .int 0, .int 0, .int ve, .int 0, .int 0])), (oB, .inr (0, [.ref am, .ref oM, .ref oS, .ref oK, .ref oL, .ref oD])), (oM, .inr (3, [.ref ad, .ref ab, .int 0])), (am, .inl (tm, 512, .inl f))]) (va_A [(h0, .inr (5, [.ref ar, .ref oB, .ref oS, .int 0, .int 0, .int 0, .int ve, .int 0, .int 0])), (oB, .inr (0, [.ref am, .ref oM, .ref oS, .ref oK, .ref oL, .ref oD])), (oM, .inr (3, [.ref ad, .ref ab, .int 0])), (am, .inl (tm, 512, .inl f))] sz)) 0 0 (va_A [(h0, .inr (5, [.ref ar, .ref oB, .ref oS, .int 0, .int 0, .int 0, .int ve, .int 0, .int 0])), (oB, .inr (0, [.ref am, .ref oM, .ref oS, .ref oK, .ref oL, .ref oD])), (oM, .inr (3, [.ref ad, .ref ab, .int 0])), (am, .inl (tm, 512, .inl f))] sz) := by
  refine Met.ofW (cc := cX6_readWord) (maxL := 4) (ret := (some .int)) (by decide) rfl ?_
  intro p e s m args below meth c s₁ B hml hv
  obtain ⟨rfl, hsz, hP, hK, hD0⟩ := hv
  have hx := B.exec
  have hb := B.bytes
  have hr := B.returns
  have hts := atoms_spec (ws := wsX6_readWord) B.pre
  have hown : s.vm.findClass RX6 = some m.cls := findClass_of_methodNamed B.named
  have hlocks := B.notSynchronized
  have hD := hD0.self (sz := sz)
  generalize hAe : va_A [(h0, .inr (5, [.ref ar, .ref oB, .ref oS, .int 0, .int 0, .int 0, .int ve, .int 0, .int 0])), (oB, .inr (0, [.ref am, .ref oM, .ref oS, .ref oK, .ref oL, .ref oD])), (oM, .inr (3, [.ref ad, .ref ab, .int 0])), (am, .inl (tm, 512, .inl f))] sz = A at hD ⊢
  have hA : ∀ q : Nat, s.heap.size ≤ q → A q := fun q h => by rw [← hAe]; exact Or.inr (by omega)
  have hS0 : ∀ G : Heap, s.heap = G → va_S A s.heap G [] := fun G h => by subst h; exact va_S.rf
  generalize hHe : s.heap = H at hP ⊢
  have hS := hS0 H hHe
  have hP : va_P (dC, dI) vwCl [(h0, .inr (5, [.ref ar, .ref oB, .ref oS, .int 0, .int 0, .int 0, .int ve, .int 0, .int 0])), (oB, .inr (0, [.ref am, .ref oM, .ref oS, .ref oK, .ref oL, .ref oD])), (oM, .inr (3, [.ref ad, .ref ab, .int 0])), (am, .inl (tm, 512, .inl f))] H := hP
  have hD : va_D A [(h0, .inr (5, [.ref ar, .ref oB, .ref oS, .int 0, .int 0, .int 0, .int ve, .int 0, .int 0])), (oB, .inr (0, [.ref am, .ref oM, .ref oS, .ref oK, .ref oL, .ref oD])), (oM, .inr (3, [.ref ad, .ref ab, .int 0])), (am, .inl (tm, 512, .inl f))] := hD
  have hK : va_K (dC, dI) vwCl [(tm, .int)] s := hK
  have hl := lv_entry ([.ref h0, .int 0, .int 6]) (n := 4) (Nat.le_of_ble_eq_true rfl)
  rw [lg_entry_eq]
  generalize (lg_sl ([.ref h0, .int 0, .int 6]) ++ List.replicate (4 - (lg_sl ([.ref h0, .int 0, .int 6])).length) Slot.unset).toArray = ls at hl ⊢
  have hl : lv_has ls 4 [(0, .ref h0), (1, .int 0), (2, .int 6)] := hl
  refine lv_iload_n hx hb dX6_readWord_0 rfl (lv_at hl 2 rfl) ?_
  refine lv_iconst (v := 1) hx hb dX6_readWord_1 (by decide) ?_
  refine lv_iand hx hb dX6_readWord_2 ?_
  refine lv_topi (fun y1 ey1 => ?_)
  obtain rfl : y1 = 0 := by rw [ey1]; decide
  refine lv_if_eq (tgt := 11) hx hb dX6_readWord_3 (by decide) (fun c2 => ?_) (fun c2 => ?_)
  · skip
    refine lv_aload_n hx hb dX6_readWord_11 rfl (lv_at hl 0 rfl) ?_
    refine va_get (D := (dC, dI)) (ci := 5) (v := .ref oB) (C := RX6) (T := TX6) (N := 9) hx hb hts (by decide +kernel) hown hK hP 0 rfl rfl 1 (by decide) (hts (.fieldLink RX6 33 "UnibusMachine$Processor" "bus" "LUnibusMachine$Bus;") (by decide +kernel)) (fun _ h9 => h9) rfl dX6_readWord_12 ?_
    refine lv_aload_n hx hb dX6_readWord_15 rfl (lv_at hl 0 rfl) ?_
    refine lv_iload_n hx hb dX6_readWord_16 rfl (lv_at hl 1 rfl) ?_
    refine lv_iload_n hx hb dX6_readWord_17 rfl (lv_at hl 2 rfl) ?_
    refine lv_iconst (v := 0) hx hb dX6_readWord_18 (by decide) ?_
    have hPc := hP.sub (ws' := [(h0, .inr (5, [.ref ar, .ref oB, .ref oS, .int 0, .int 0, .int 0, .int ve, .int 0, .int 0])), (oB, .inr (0, [.ref am, .ref oM, .ref oS, .ref oK, .ref oL, .ref oD])), (oM, .inr (3, [.ref ad, .ref ab, .int 0]))]) [0, 1, 2] rfl
    have hDc := hD.sub (ws' := [(h0, .inr (5, [.ref ar, .ref oB, .ref oS, .int 0, .int 0, .int 0, .int ve, .int 0, .int 0])), (oB, .inr (0, [.ref am, .ref oM, .ref oS, .ref oK, .ref oL, .ref oD])), (oM, .inr (3, [.ref ad, .ref ab, .int 0]))]) [0, 1, 2] (by decide) rfl
    have hKc := hK.sub (tys' := []) [] rfl
    have hFc := va_free (wc := [(h0, .inr (5, [.ref ar, .ref oB, .ref oS, .int 0, .int 0, .int 0, .int ve, .int 0, .int 0])), (oB, .inr (0, [.ref am, .ref oM, .ref oS, .ref oK, .ref oL, .ref oD])), (oM, .inr (3, [.ref ad, .ref ab, .int 0]))]) hD hS hA [0, 1, 2] rfl
    refine va_calli (va_runV (As := [.int 0, .int 6, .int 0]) (rest := [.ref oB]) ⟨hx, hb, hml, hown, hts⟩ (c_place6 l dC dI h0 ar oB oS ve am oM oK oL oD ad ab H.size) (cwV 3 hts gX6_readWord_X6_place rfl rfl rfl (by decide +kernel) ⟨Nat.le_of_ble_eq_true rfl, Nat.le_of_ble_eq_true rfl⟩) ⟨fun a U g mk q => by obtain ⟨q0, q1, qP, qK, qD⟩ := q; exact ⟨q0, q1, qP, va_K.moved (u := U) (U := U.calling g mk a) (Vm.Alike.refl U.vm) qK, qD⟩, va_recv hKc hPc (ci := 5) (q0 := 0) rfl rfl, fun U hU hW => ⟨rfl, by rw [hU], by rw [hU]; exact hPc, va_K.moved hW.alike hKc, hDc.weaken (fun _ _ _ _ => trivial)⟩⟩ rfl rfl hl.1 rfl (lv_room (Nat.le_of_ble_eq_true rfl)) dX6_readWord_19 ⟨Nat.le_of_ble_eq_true rfl, Nat.le_of_ble_eq_true rfl⟩) hS (fun q _ h => hFc q h) hFc (fun r3 u4 t H1 locs ht hvm hw hB hz1 hk1 hS => ?_)
    obtain ⟨hP1, hK1, hD1⟩ := hB
    rw [ht] at hP1
    have hK1 := va_K.moved hvm.symm hK1
    try dsimp only at hw
    obtain ⟨hP, hD⟩ := va_join (wr := [(am, .inl (tm, 512, .inl f))]) (w1 := [(h0, .inr (5, [.ref ar, .ref oB, .ref oS, .int 0, .int 0, .int 0, .int ve, .int 0, .int 0])), (oB, .inr (0, [.ref am, .ref oM, .ref oS, .ref oK, .ref oL, .ref oD])), (oM, .inr (3, [.ref ad, .ref ab, .int 0]))]) hP hD [0, 1, 2] [3] rfl rfl (by decide) (by decide) hk1 hFc hP1 hD1
    have hK := (hK.sub (tys' := [(tm, .int)]) [0] rfl).app hK1
    generalize H1 = H at hP hS ⊢
    have hP : va_P (dC, dI) vwCl [(am, .inl (tm, 512, .inl f)), (h0, .inr (5, [.ref ar, .ref oB, .ref oS, .int 0, .int 0, .int 0, .int ve, .int 0, .int 0])), (oB, .inr (0, [.ref am, .ref oM, .ref oS, .ref oK, .ref oL, .ref oD])), (oM, .inr (3, [.ref ad, .ref ab, .int 0]))] H := hP
    have hD : va_D A [(am, .inl (tm, 512, .inl f)), (h0, .inr (5, [.ref ar, .ref oB, .ref oS, .int 0, .int 0, .int 0, .int ve, .int 0, .int 0])), (oB, .inr (0, [.ref am, .ref oM, .ref oS, .ref oK, .ref oL, .ref oD])), (oM, .inr (3, [.ref ad, .ref ab, .int 0]))] := hD
    have hK : va_K (dC, dI) vwCl [(tm, .int)] s := hK
    refine W.widen (k := 0) (n := 0) (Nat.le_of_ble_eq_true rfl) (Nat.le_of_ble_eq_true rfl) ?_
    obtain rfl := hw
    have hPc := hP.sub (ws' := [(oB, .inr (0, [.ref am, .ref oM, .ref oS, .ref oK, .ref oL, .ref oD])), (am, .inl (tm, 512, .inl f))]) [2, 0] rfl
    have hDc := hD.sub (ws' := [(oB, .inr (0, [.ref am, .ref oM, .ref oS, .ref oK, .ref oL, .ref oD])), (am, .inl (tm, 512, .inl f))]) [2, 0] (by decide) rfl
    have hKc := hK.sub (tys' := [(tm, .int)]) [0] rfl
    have hFc := va_free (wc := [(oB, .inr (0, [.ref am, .ref oM, .ref oS, .ref oK, .ref oL, .ref oD])), (am, .inl (tm, 512, .inl f))]) hD hS hA [2, 0] rfl
    refine va_calli (va_runV (As := [.int 6]) (rest := []) ⟨hx, hb, hml, hown, hts⟩ (c_read6 l dC dI oB am oM oS oK oL oD tm f H.size (by first | assumption | omega | decide)) (cwV 1 hts gX6_readWord_X0_read rfl rfl rfl (by decide +kernel) ⟨Nat.le_of_ble_eq_true rfl, Nat.le_of_ble_eq_true rfl⟩) ⟨fun a U g mk q => by obtain ⟨q0, q1, qP, qK, qD⟩ := q; exact ⟨q0, q1, qP, va_K.moved (u := U) (U := U.calling g mk a) (Vm.Alike.refl U.vm) qK, qD⟩, va_recv hKc hPc (ci := 0) (q0 := 0) rfl rfl, fun U hU hW => ⟨rfl, by rw [hU], by rw [hU]; exact hPc, va_K.moved hW.alike hKc, hDc.weaken (fun _ _ _ _ => trivial)⟩⟩ rfl rfl hl.1 rfl (lv_room (Nat.le_of_ble_eq_true rfl)) dX6_readWord_22 ⟨Nat.le_of_ble_eq_true rfl, Nat.le_of_ble_eq_true rfl⟩) hS (fun q _ h => hFc q h) hFc (fun r5 u6 t H1 locs ht hvm hw hB hz1 hk1 hS => ?_)
    obtain ⟨hP1, hK1, hD1⟩ := hB
    rw [ht] at hP1
    have hK1 := va_K.moved hvm.symm hK1
    try dsimp only at hw
    obtain ⟨hP, hD⟩ := va_join (wr := [(h0, .inr (5, [.ref ar, .ref oB, .ref oS, .int 0, .int 0, .int 0, .int ve, .int 0, .int 0])), (oM, .inr (3, [.ref ad, .ref ab, .int 0]))]) (w1 := [(oB, .inr (0, [.ref am, .ref oM, .ref oS, .ref oK, .ref oL, .ref oD])), (am, .inl (tm, 512, .inl f))]) hP hD [2, 0] [1, 3] rfl rfl (by decide) (by decide) hk1 hFc hP1 hD1
    have hK := (hK.sub (tys' := []) [] rfl).app hK1
    generalize H1 = H at hP hS ⊢
    have hP : va_P (dC, dI) vwCl [(h0, .inr (5, [.ref ar, .ref oB, .ref oS, .int 0, .int 0, .int 0, .int ve, .int 0, .int 0])), (oM, .inr (3, [.ref ad, .ref ab, .int 0])), (oB, .inr (0, [.ref am, .ref oM, .ref oS, .ref oK, .ref oL, .ref oD])), (am, .inl (tm, 512, .inl f))] H := hP
    have hD : va_D A [(h0, .inr (5, [.ref ar, .ref oB, .ref oS, .int 0, .int 0, .int 0, .int ve, .int 0, .int 0])), (oM, .inr (3, [.ref ad, .ref ab, .int 0])), (oB, .inr (0, [.ref am, .ref oM, .ref oS, .ref oK, .ref oL, .ref oD])), (am, .inl (tm, 512, .inl f))] := hD
    have hK : va_K (dC, dI) vwCl [(tm, .int)] s := hK
    refine W.widen (k := 0) (n := 0) (Nat.le_of_ble_eq_true rfl) (Nat.le_of_ble_eq_true rfl) ?_
    obtain rfl := hw
    refine lv_istore_n (lv' := [(3, .int 224), (0, .ref h0), (1, .int 0), (2, .int 6)]) hx hb dX6_readWord_25 rfl hl (by decide) rfl (fun ls hl => ?_)
    refine lv_iload_n hx hb dX6_readWord_26 rfl (lv_at hl 0 rfl) ?_
    refine lv_if_ge (tgt := 35) hx hb dX6_readWord_27 (by decide) (fun c7 => ?_) (fun c7 => ?_)
    · skip
      refine lv_iload_n hx hb dX6_readWord_35 rfl (lv_at hl 0 rfl) ?_
      have hP9 := hP.sub (ws' := [(h0, .inr (5, [.ref ar, .ref oB, .ref oS, .int 0, .int 0, .int 0, .int ve, .int 0, .int 0])), (oB, .inr (0, [.ref am, .ref oM, .ref oS, .ref oK, .ref oL, .ref oD])), (oM, .inr (3, [.ref ad, .ref ab, .int 0])), (am, .inl (tm, 512, .inl f))]) [0, 2, 1, 3] rfl
      have hD9 := hD.sub (ws' := [(h0, .inr (5, [.ref ar, .ref oB, .ref oS, .int 0, .int 0, .int 0, .int ve, .int 0, .int 0])), (oB, .inr (0, [.ref am, .ref oM, .ref oS, .ref oK, .ref oL, .ref oD])), (oM, .inr (3, [.ref ad, .ref ab, .int 0])), (am, .inl (tm, 512, .inl f))]) [0, 2, 1, 3] (by decide) rfl
      have hK9 := hK.sub (tys' := [(tm, .int)]) [0] rfl
      exact W.iret (v := 224) hx hb hr (fun t ht hW => ⟨⟨224, (), rfl, rfl, by rw [ht]; exact hP9, va_K.moved hW.alike hK9, hD9⟩, hS.F ht⟩) hS.2.2 dX6_readWord_36
    · exact absurd c7 (by decide)
  · exact absurd c2 (by decide)
set_option maxHeartbeats 4000000 in
set_option maxRecDepth 100000 in
theorem c_takeStatus (l : Launch) (dC : Nat → ClassId) (dI : Nat → Nat → Nat) (h0 : Nat) (ar : Nat) (oB : Nat) (oS : Nat) (ve : Int32) (sz : Nat) : Met l yX6_takeStatus wsX6_takeStatus ({ frames := 0, cells := 0, slots := 0, locals := 0 } : Room) (va_Pc [.ref h0, .int 224] (fun U => U.heap.size = sz ∧ va_P (dC, dI) vwCl [(h0, .inr (5, [.ref ar, .ref oB, .ref oS, .int 0, .int 0, .int 0, .int ve, .int 0, .int 0])), (oS, .inr (6, [.int 224, .int (-1)]))] U.heap ∧ va_K (dC, dI) vwCl [] U ∧ va_D (fun _ => True) [(h0, .inr (5, [.ref ar, .ref oB, .ref oS, .int 0, .int 0, .int 0, .int ve, .int 0, .int 0])), (oS, .inr (6, [.int 224, .int (-1)]))])) (va_Qv (fun (u : Unit) => True) (fun (u : Unit) (t : State) => va_P (dC, dI) vwCl [(h0, .inr (5, [.ref ar, .ref oB, .ref oS, .int 0, .int 0, .int 0, .int ve, .int 0, .int 0])), (oS, .inr (6, [.int 224, .int (-1)]))] t.heap ∧ va_K (dC, dI) vwCl [] t ∧ va_D (va_A [(h0, .inr (5, [.ref ar, .ref oB, .ref oS, .int 0, .int 0, .int 0, .int ve, .int 0, .int 0])), (oS, .inr (6, [.int 224, .int (-1)]))] sz) [(h0, .inr (5, [.ref ar, .ref oB, .ref oS, .int 0, .int 0, .int 0, .int ve, .int 0, .int 0])), (oS, .inr (6, [.int 224, .int (-1)]))]) (va_A [(h0, .inr (5, [.ref ar, .ref oB, .ref oS, .int 0, .int 0, .int 0, .int ve, .int 0, .int 0])), (oS, .inr (6, [.int 224, .int (-1)]))] sz)) 0 0 (va_A [(h0, .inr (5, [.ref ar, .ref oB, .ref oS, .int 0, .int 0, .int 0, .int ve, .int 0, .int 0])), (oS, .inr (6, [.int 224, .int (-1)]))] sz) := by
  refine Met.ofW (cc := cX6_takeStatus) (maxL := 3) (ret := none) (by decide) rfl ?_
  intro p e s m args below meth c s₁ B hml hv
  obtain ⟨rfl, hsz, hP, hK, hD0⟩ := hv
  have hx := B.exec
  have hb := B.bytes
  have hr := B.returns
  have hts := atoms_spec (ws := wsX6_takeStatus) B.pre
  have hown : s.vm.findClass RX6 = some m.cls := findClass_of_methodNamed B.named
  have hlocks := B.notSynchronized
  have hD := hD0.self (sz := sz)
  generalize hAe : va_A [(h0, .inr (5, [.ref ar, .ref oB, .ref oS, .int 0, .int 0, .int 0, .int ve, .int 0, .int 0])), (oS, .inr (6, [.int 224, .int (-1)]))] sz = A at hD ⊢
  have hA : ∀ q : Nat, s.heap.size ≤ q → A q := fun q h => by rw [← hAe]; exact Or.inr (by omega)
  have hS0 : ∀ G : Heap, s.heap = G → va_S A s.heap G [] := fun G h => by subst h; exact va_S.rf
  generalize hHe : s.heap = H at hP ⊢
  have hS := hS0 H hHe
  have hP : va_P (dC, dI) vwCl [(h0, .inr (5, [.ref ar, .ref oB, .ref oS, .int 0, .int 0, .int 0, .int ve, .int 0, .int 0])), (oS, .inr (6, [.int 224, .int (-1)]))] H := hP
  have hD : va_D A [(h0, .inr (5, [.ref ar, .ref oB, .ref oS, .int 0, .int 0, .int 0, .int ve, .int 0, .int 0])), (oS, .inr (6, [.int 224, .int (-1)]))] := hD
  have hK : va_K (dC, dI) vwCl [] s := hK
  have hl := lv_entry ([.ref h0, .int 224]) (n := 3) (Nat.le_of_ble_eq_true rfl)
  rw [lg_entry_eq]
  generalize (lg_sl ([.ref h0, .int 224]) ++ List.replicate (3 - (lg_sl ([.ref h0, .int 224])).length) Slot.unset).toArray = ls at hl ⊢
  have hl : lv_has ls 3 [(0, .ref h0), (1, .int 224)] := hl
  refine lv_iload_n hx hb dX6_takeStatus_0 rfl (lv_at hl 1 rfl) ?_
  refine lv_aload_n hx hb dX6_takeStatus_1 rfl (lv_at hl 0 rfl) ?_
  refine va_get (D := (dC, dI)) (ci := 5) (v := .ref oS) (C := RX6) (T := TX6) (N := 9) hx hb hts (by decide +kernel) hown hK hP 0 rfl rfl 2 (by decide) (hts (.fieldLink RX6 43 "UnibusMachine$Processor" "status" "LUnibusMachine$Status;") (by decide +kernel)) (fun _ h9 => h9) rfl dX6_takeStatus_2 ?_
  refine va_get (D := (dC, dI)) (ci := 6) (v := .int 224) (C := RX7) (T := TX7) (N := 2) hx hb hts (by decide +kernel) hown hK hP 1 rfl rfl 0 (by decide) (hts (.fieldLink RX6 44 "UnibusMachine$Status" "now" "I") (by decide +kernel)) (fun _ h9 => h9) rfl dX6_takeStatus_5 ?_
  refine lv_ixor hx hb dX6_takeStatus_8 ?_
  refine lv_topi (fun y1 ey1 => ?_)
  obtain rfl : y1 = 0 := by rw [ey1]; decide
  refine lv_sipush (v := 16384) hx hb dX6_takeStatus_9 (by decide) ?_
  refine lv_iand hx hb dX6_takeStatus_12 ?_
  refine lv_topi (fun y2 ey2 => ?_)
  obtain rfl : y2 = 0 := by rw [ey2]; decide
  refine lv_if_eq (tgt := 40) hx hb dX6_takeStatus_13 (by decide) (fun c3 => ?_) (fun c3 => ?_)
  · skip
    refine lv_aload_n hx hb dX6_takeStatus_40 rfl (lv_at hl 0 rfl) ?_
    refine va_get (D := (dC, dI)) (ci := 5) (v := .ref oS) (C := RX6) (T := TX6) (N := 9) hx hb hts (by decide +kernel) hown hK hP 0 rfl rfl 2 (by decide) (hts (.fieldLink RX6 43 "UnibusMachine$Processor" "status" "LUnibusMachine$Status;") (by decide +kernel)) (fun _ h9 => h9) rfl dX6_takeStatus_41 ?_
    refine lv_iload_n hx hb dX6_takeStatus_44 rfl (lv_at hl 1 rfl) ?_
    refine va_put (D := (dC, dI)) (ci := 6) (v := .int 224) (ty := .int) (C := RX7) (T := TX7) (N := 2) hx hb hts (by decide +kernel) tyX7 tyX7_ok nmX7 hown hK hP hD hS 1 rfl rfl 0 (by decide) (hts (.fieldLink RX6 44 "UnibusMachine$Status" "now" "I") (by decide +kernel)) (fun _ h9 => h9) rfl (by decide +kernel) rfl rfl (Nat.le_of_ble_eq_true rfl) dX6_takeStatus_45 (fun H locs hP hD hS => ?_)
    have hP : va_P (dC, dI) vwCl [(h0, .inr (5, [.ref ar, .ref oB, .ref oS, .int 0, .int 0, .int 0, .int ve, .int 0, .int 0])), (oS, .inr (6, [.int 224, .int (-1)]))] H := hP
    have hD : va_D A [(h0, .inr (5, [.ref ar, .ref oB, .ref oS, .int 0, .int 0, .int 0, .int ve, .int 0, .int 0])), (oS, .inr (6, [.int 224, .int (-1)]))] := hD
    have hP9 := hP.sub (ws' := [(h0, .inr (5, [.ref ar, .ref oB, .ref oS, .int 0, .int 0, .int 0, .int ve, .int 0, .int 0])), (oS, .inr (6, [.int 224, .int (-1)]))]) [0, 1] rfl
    have hD9 := hD.sub (ws' := [(h0, .inr (5, [.ref ar, .ref oB, .ref oS, .int 0, .int 0, .int 0, .int ve, .int 0, .int 0])), (oS, .inr (6, [.int 224, .int (-1)]))]) [0, 1] (by decide) rfl
    have hK9 := hK.sub (tys' := []) [] rfl
    exact W.vret hx hb hr (fun t ht hW => ⟨⟨(), rfl, trivial, by rw [ht]; exact hP9, va_K.moved hW.alike hK9, hD9⟩, hS.F ht⟩) hS.2.2 dX6_takeStatus_48
  · exact absurd c3 (by decide)
set_option maxHeartbeats 4000000 in
set_option maxRecDepth 100000 in
theorem c_fall6 (l : Launch) (dC : Nat → ClassId) (dI : Nat → Nat → Nat) (h0 : Nat) (ar : Nat) (oB : Nat) (oS : Nat) (ve : Int32) (tr : ClassId) (g : Nat → Int32) (z : Int) (sz : Nat) (hF0 : g (7 : Int32).toNatClampNeg = 1) (hF1 : (g (6 : Int32).toNatClampNeg).toInt = z) (hH2 : 166 ≤ z) (hH3 : z ≤ 1024) (hH4 : z % 2 = 0) : Met l yX6_fall wsX6_fall ({ frames := 0, cells := 0, slots := 0, locals := 0 } : Room) (va_Pc [.ref h0, .int 6, .int 2] (fun U => U.heap.size = sz ∧ va_P (dC, dI) vwCl [(h0, .inr (5, [.ref ar, .ref oB, .ref oS, .int 0, .int 0, .int 0, .int ve, .int 0, .int 0])), (ar, .inl (tr, 8, .inl g))] U.heap ∧ va_K (dC, dI) vwCl [(tr, .int)] U ∧ va_D (fun _ => True) [(h0, .inr (5, [.ref ar, .ref oB, .ref oS, .int 0, .int 0, .int 0, .int ve, .int 0, .int 0])), (ar, .inl (tr, 8, .inl g))])) (va_Qi (fun (r : Int32) (u : (Nat → Int32)) => (u (6 : Int32).toNatClampNeg = r) ∧ (u (7 : Int32).toNatClampNeg = 1) ∧ ((u (6 : Int32).toNatClampNeg).toInt = z - 2)) (fun (u : (Nat → Int32)) (t : State) => va_P (dC, dI) vwCl [(h0, .inr (5, [.ref ar, .ref oB, .ref oS, .int 0, .int 0, .int 0, .int ve, .int 0, .int 0])), (ar, .inl (tr, 8, .inl u))] t.heap ∧ va_K (dC, dI) vwCl [(tr, .int)] t ∧ va_D (va_A [(h0, .inr (5, [.ref ar, .ref oB, .ref oS, .int 0, .int 0, .int 0, .int ve, .int 0, .int 0])), (ar, .inl (tr, 8, .inl g))] sz) [(h0, .inr (5, [.ref ar, .ref oB, .ref oS, .int 0, .int 0, .int 0, .int ve, .int 0, .int 0])), (ar, .inl (tr, 8, .inl u))]) (va_A [(h0, .inr (5, [.ref ar, .ref oB, .ref oS, .int 0, .int 0, .int 0, .int ve, .int 0, .int 0])), (ar, .inl (tr, 8, .inl g))] sz)) 0 0 (va_A [(h0, .inr (5, [.ref ar, .ref oB, .ref oS, .int 0, .int 0, .int 0, .int ve, .int 0, .int 0])), (ar, .inl (tr, 8, .inl g))] sz) := by
  refine Met.ofW (cc := cX6_fall) (maxL := 3) (ret := (some .int)) (by decide) rfl ?_
  intro p e s m args below meth c s₁ B hml hv
  obtain ⟨rfl, hsz, hP, hK, hD0⟩ := hv
  have hx := B.exec
  have hb := B.bytes
  have hr := B.returns
  have hts := atoms_spec (ws := wsX6_fall) B.pre
  have hown : s.vm.findClass RX6 = some m.cls := findClass_of_methodNamed B.named
  have hlocks := B.notSynchronized
  have hD := hD0.self (sz := sz)
  generalize hAe : va_A [(h0, .inr (5, [.ref ar, .ref oB, .ref oS, .int 0, .int 0, .int 0, .int ve, .int 0, .int 0])), (ar, .inl (tr, 8, .inl g))] sz = A at hD ⊢
  have hA : ∀ q : Nat, s.heap.size ≤ q → A q := fun q h => by rw [← hAe]; exact Or.inr (by omega)
  have hS0 : ∀ G : Heap, s.heap = G → va_S A s.heap G [] := fun G h => by subst h; exact va_S.rf
  generalize hHe : s.heap = H at hP ⊢
  have hS := hS0 H hHe
  have hP : va_P (dC, dI) vwCl [(h0, .inr (5, [.ref ar, .ref oB, .ref oS, .int 0, .int 0, .int 0, .int ve, .int 0, .int 0])), (ar, .inl (tr, 8, .inl g))] H := hP
  have hD : va_D A [(h0, .inr (5, [.ref ar, .ref oB, .ref oS, .int 0, .int 0, .int 0, .int ve, .int 0, .int 0])), (ar, .inl (tr, 8, .inl g))] := hD
  have hK : va_K (dC, dI) vwCl [(tr, .int)] s := hK
  have hl := lv_entry ([.ref h0, .int 6, .int 2]) (n := 3) (Nat.le_of_ble_eq_true rfl)
  rw [lg_entry_eq]
  generalize (lg_sl ([.ref h0, .int 6, .int 2]) ++ List.replicate (3 - (lg_sl ([.ref h0, .int 6, .int 2])).length) Slot.unset).toArray = ls at hl ⊢
  have hl : lv_has ls 3 [(0, .ref h0), (1, .int 6), (2, .int 2)] := hl
  refine lv_aload_n hx hb dX6_fall_0 rfl (lv_at hl 0 rfl) ?_
  refine va_get (D := (dC, dI)) (ci := 5) (v := .ref ar) (C := RX6) (T := TX6) (N := 9) hx hb hts (by decide +kernel) hown hK hP 0 rfl rfl 0 (by decide) (hts (.fieldLink RX6 7 "UnibusMachine$Processor" "registers" "[I") (by decide +kernel)) (fun _ h9 => h9) rfl dX6_fall_1 ?_
  refine lv_iload_n hx hb dX6_fall_4 rfl (lv_at hl 1 rfl) ?_
  refine lv_aload_n hx hb dX6_fall_5 rfl (lv_at hl 0 rfl) ?_
  refine va_get (D := (dC, dI)) (ci := 5) (v := .ref ar) (C := RX6) (T := TX6) (N := 9) hx hb hts (by decide +kernel) hown hK hP 0 rfl rfl 0 (by decide) (hts (.fieldLink RX6 7 "UnibusMachine$Processor" "registers" "[I") (by decide +kernel)) (fun _ h9 => h9) rfl dX6_fall_6 ?_
  refine lv_iload_n hx hb dX6_fall_9 rfl (lv_at hl 1 rfl) ?_
  refine va_iald (D := (dC, dI)) hx hb hK hP 1 0 rfl rfl (vp_in_iff.mpr (by decide)) dX6_fall_10 ?_
  refine lv_iload_n hx hb dX6_fall_11 rfl (lv_at hl 2 rfl) ?_
  refine lv_isub hx hb dX6_fall_12 ?_
  refine lv_ldc (v := 65535) hx hb hown (hts (.constant RX6 60 (65535)) (by decide +kernel)) dX6_fall_13 ?_
  refine lv_iand hx hb dX6_fall_15 ?_
  refine va_iast (D := (dC, dI)) hx hb hK hP hD hS 1 0 rfl rfl (vp_in_iff.mpr (by decide)) dX6_fall_16 (fun H locs hP hD hS => ?_)
  have hP : va_P (dC, dI) vwCl [(h0, .inr (5, [.ref ar, .ref oB, .ref oS, .int 0, .int 0, .int 0, .int ve, .int 0, .int 0])), (ar, .inl (tr, 8, .inl (upd g (6 : Int32).toNatClampNeg (((g (6 : Int32).toNatClampNeg) - 2) &&& 65535))))] H := hP
  have hD : va_D A [(h0, .inr (5, [.ref ar, .ref oB, .ref oS, .int 0, .int 0, .int 0, .int ve, .int 0, .int 0])), (ar, .inl (tr, 8, .inl (upd g (6 : Int32).toNatClampNeg (((g (6 : Int32).toNatClampNeg) - 2) &&& 65535))))] := hD
  obtain ⟨f1, hf1⟩ : ∃ z : Nat → Int32, z = upd g (6 : Int32).toNatClampNeg (((g (6 : Int32).toNatClampNeg) - 2) &&& 65535) := ⟨_, rfl⟩
  rw [← hf1] at hP hD
  have hf1_7 : f1 (7 : Int32).toNatClampNeg = 1 := by rw [hf1, pk_un (by decide)]; assumption
  have hf1_6 : (f1 (6 : Int32).toNatClampNeg).toInt = z - 2 := by rw [hf1, pk_us]; rw [fz_m2 _ (by omega) (by omega)]; omega
  have hP : va_P (dC, dI) vwCl [(h0, .inr (5, [.ref ar, .ref oB, .ref oS, .int 0, .int 0, .int 0, .int ve, .int 0, .int 0])), (ar, .inl (tr, 8, .inl f1))] H := hP
  have hD : va_D A [(h0, .inr (5, [.ref ar, .ref oB, .ref oS, .int 0, .int 0, .int 0, .int ve, .int 0, .int 0])), (ar, .inl (tr, 8, .inl f1))] := hD
  refine lv_aload_n hx hb dX6_fall_17 rfl (lv_at hl 0 rfl) ?_
  refine va_get (D := (dC, dI)) (ci := 5) (v := .ref ar) (C := RX6) (T := TX6) (N := 9) hx hb hts (by decide +kernel) hown hK hP 0 rfl rfl 0 (by decide) (hts (.fieldLink RX6 7 "UnibusMachine$Processor" "registers" "[I") (by decide +kernel)) (fun _ h9 => h9) rfl dX6_fall_18 ?_
  refine lv_iload_n hx hb dX6_fall_21 rfl (lv_at hl 1 rfl) ?_
  refine va_iald (D := (dC, dI)) hx hb hK hP 1 0 rfl rfl (vp_in_iff.mpr (by decide)) dX6_fall_22 ?_
  have hx2 : f1 (7 : Int32).toNatClampNeg = 1 := by first | assumption | omega
  have hx3 : (f1 (6 : Int32).toNatClampNeg).toInt = z - 2 := by first | assumption | omega
  have hP9 := hP.sub (ws' := [(h0, .inr (5, [.ref ar, .ref oB, .ref oS, .int 0, .int 0, .int 0, .int ve, .int 0, .int 0])), (ar, .inl (tr, 8, .inl f1))]) [0, 1] rfl
  have hD9 := hD.sub (ws' := [(h0, .inr (5, [.ref ar, .ref oB, .ref oS, .int 0, .int 0, .int 0, .int ve, .int 0, .int 0])), (ar, .inl (tr, 8, .inl f1))]) [0, 1] (by decide) rfl
  have hK9 := hK.sub (tys' := [(tr, .int)]) [0] rfl
  exact W.iret (v := f1 (6 : Int32).toNatClampNeg) hx hb hr (fun t ht hW => ⟨⟨f1 (6 : Int32).toNatClampNeg, (f1), rfl, ⟨(by first | rfl | omega | assumption), hx2, hx3⟩, by rw [ht]; exact hP9, va_K.moved hW.alike hK9, hD9⟩, hS.F ht⟩) hS.2.2 dX6_fall_23
set_option maxHeartbeats 4000000 in
set_option maxRecDepth 100000 in
theorem c_writeM (l : Launch) (dC : Nat → ClassId) (dI : Nat → Nat → Nat) (h0 : Nat) (am : Nat) (oM : Nat) (oS : Nat) (oK : Nat) (oL : Nat) (oD : Nat) (tm : ClassId) (f : Nat → Int32) (a0 : Int32) (v0 : Int32) (sz : Nat) (hF0 : f (2 : Int32).toNatClampNeg = 1) (hF1 : f (3 : Int32).toNatClampNeg = 224) (hH2 : 160 ≤ a0.toInt) (hH3 : a0.toInt < 1024) (hH4 : a0.toInt % 2 = 0) : Met l yX0_write wsX0_write ({ frames := 0, cells := 0, slots := 0, locals := 0 } : Room) (va_Pc [.ref h0, .int a0, .int v0] (fun U => U.heap.size = sz ∧ va_P (dC, dI) vwCl [(h0, .inr (0, [.ref am, .ref oM, .ref oS, .ref oK, .ref oL, .ref oD])), (am, .inl (tm, 512, .inl f))] U.heap ∧ va_K (dC, dI) vwCl [(tm, .int)] U ∧ va_D (fun _ => True) [(h0, .inr (0, [.ref am, .ref oM, .ref oS, .ref oK, .ref oL, .ref oD])), (am, .inl (tm, 512, .inl f))])) (va_Qi (fun (r : Int32) (u : (Nat → Int32)) => (1 = r) ∧ (u (2 : Int32).toNatClampNeg = 1) ∧ (u (3 : Int32).toNatClampNeg = 224)) (fun (u : (Nat → Int32)) (t : State) => va_P (dC, dI) vwCl [(h0, .inr (0, [.ref am, .ref oM, .ref oS, .ref oK, .ref oL, .ref oD])), (am, .inl (tm, 512, .inl u))] t.heap ∧ va_K (dC, dI) vwCl [(tm, .int)] t ∧ va_D (va_A [(h0, .inr (0, [.ref am, .ref oM, .ref oS, .ref oK, .ref oL, .ref oD])), (am, .inl (tm, 512, .inl f))] sz) [(h0, .inr (0, [.ref am, .ref oM, .ref oS, .ref oK, .ref oL, .ref oD])), (am, .inl (tm, 512, .inl u))]) (va_A [(h0, .inr (0, [.ref am, .ref oM, .ref oS, .ref oK, .ref oL, .ref oD])), (am, .inl (tm, 512, .inl f))] sz)) 0 0 (va_A [(h0, .inr (0, [.ref am, .ref oM, .ref oS, .ref oK, .ref oL, .ref oD])), (am, .inl (tm, 512, .inl f))] sz) := by
  refine Met.ofW (cc := cX0_write) (maxL := 3) (ret := (some .boolean)) (by decide) rfl ?_
  intro p e s m args below meth c s₁ B hml hv
  obtain ⟨rfl, hsz, hP, hK, hD0⟩ := hv
  have hx := B.exec
  have hb := B.bytes
  have hr := B.returns
  have hts := atoms_spec (ws := wsX0_write) B.pre
  have hown : s.vm.findClass RX0 = some m.cls := findClass_of_methodNamed B.named
  have hlocks := B.notSynchronized
  have hD := hD0.self (sz := sz)
  generalize hAe : va_A [(h0, .inr (0, [.ref am, .ref oM, .ref oS, .ref oK, .ref oL, .ref oD])), (am, .inl (tm, 512, .inl f))] sz = A at hD ⊢
  have hA : ∀ q : Nat, s.heap.size ≤ q → A q := fun q h => by rw [← hAe]; exact Or.inr (by omega)
  have hS0 : ∀ G : Heap, s.heap = G → va_S A s.heap G [] := fun G h => by subst h; exact va_S.rf
  generalize hHe : s.heap = H at hP ⊢
  have hS := hS0 H hHe
  have hP : va_P (dC, dI) vwCl [(h0, .inr (0, [.ref am, .ref oM, .ref oS, .ref oK, .ref oL, .ref oD])), (am, .inl (tm, 512, .inl f))] H := hP
  have hD : va_D A [(h0, .inr (0, [.ref am, .ref oM, .ref oS, .ref oK, .ref oL, .ref oD])), (am, .inl (tm, 512, .inl f))] := hD
  have hK : va_K (dC, dI) vwCl [(tm, .int)] s := hK
  have hl := lv_entry ([.ref h0, .int a0, .int v0]) (n := 3) (Nat.le_of_ble_eq_true rfl)
  rw [lg_entry_eq]
  generalize (lg_sl ([.ref h0, .int a0, .int v0]) ++ List.replicate (3 - (lg_sl ([.ref h0, .int a0, .int v0])).length) Slot.unset).toArray = ls at hl ⊢
  have hl : lv_has ls 3 [(0, .ref h0), (1, .int a0), (2, .int v0)] := hl
  refine lv_iload_n hx hb dX0_write_0 rfl (lv_at hl 1 rfl) ?_
  refine lv_if_lt (tgt := 22) hx hb dX0_write_1 (by decide) (fun c1 => ?_) (fun c1 => ?_)
  · have c1 := fz_lt.mp c1
    have kk0 : (0 : Int32).toInt = 0 := by decide
    exact False.elim (by omega)
  · have c1 := fz_nlt.mp c1
    have kk0 : (0 : Int32).toInt = 0 := by decide
    refine lv_iload_n hx hb dX0_write_4 rfl (lv_at hl 1 rfl) ?_
    refine lv_sipush (v := 1024) hx hb dX0_write_5 (by decide) ?_
    refine lv_icmp_ge (tgt := 22) hx hb dX0_write_8 (by decide) (fun c2 => ?_) (fun c2 => ?_)
    · have c2 := fz_le.mp c2
      have kk1024 : (1024 : Int32).toInt = 1024 := by decide
      exact False.elim (by omega)
    · have c2 := fz_nle.mp c2
      have kk1024 : (1024 : Int32).toInt = 1024 := by decide
      refine lv_aload_n hx hb dX0_write_11 rfl (lv_at hl 0 rfl) ?_
      refine va_get (D := (dC, dI)) (ci := 0) (v := .ref am) (C := RX0) (T := TX0) (N := 6) hx hb hts (by decide +kernel) hown hK hP 0 rfl rfl 0 (by decide) (hts (.fieldLink RX0 9 "UnibusMachine$Bus" "memory" "[I") (by decide +kernel)) (fun _ h9 => h9) rfl dX0_write_12 ?_
      refine lv_iload_n hx hb dX0_write_15 rfl (lv_at hl 1 rfl) ?_
      refine lv_iconst (v := 1) hx hb dX0_write_16 (by decide) ?_
      refine lv_ishr hx hb dX0_write_17 ?_
      have f1 := fz_shr1 a0 (by omega)
      refine lv_iload_n hx hb dX0_write_18 rfl (lv_at hl 2 rfl) ?_
      refine va_iast (D := (dC, dI)) hx hb hK hP hD hS 1 0 rfl rfl (vp_in_iff.mpr (by constructor <;> omega)) dX0_write_19 (fun H locs hP hD hS => ?_)
      have hP : va_P (dC, dI) vwCl [(h0, .inr (0, [.ref am, .ref oM, .ref oS, .ref oK, .ref oL, .ref oD])), (am, .inl (tm, 512, .inl (upd f (a0 >>> (1 &&& 31) : Int32).toNatClampNeg v0)))] H := hP
      have hD : va_D A [(h0, .inr (0, [.ref am, .ref oM, .ref oS, .ref oK, .ref oL, .ref oD])), (am, .inl (tm, 512, .inl (upd f (a0 >>> (1 &&& 31) : Int32).toNatClampNeg v0)))] := hD
      obtain ⟨f3, hf3⟩ : ∃ z : Nat → Int32, z = upd f (a0 >>> (1 &&& 31) : Int32).toNatClampNeg v0 := ⟨_, rfl⟩
      rw [← hf3] at hP hD
      have hf3_2 : f3 (2 : Int32).toNatClampNeg = 1 := by rw [hf3, pk_un (fz_nc _ 2 (by rw [f1]; first | (show (2 : Int) < _; omega) | (show (3 : Int) < _; omega)) (by decide))]; assumption
      have hf3_3 : f3 (3 : Int32).toNatClampNeg = 224 := by rw [hf3, pk_un (fz_nc _ 3 (by rw [f1]; first | (show (2 : Int) < _; omega) | (show (3 : Int) < _; omega)) (by decide))]; assumption
      have hP : va_P (dC, dI) vwCl [(h0, .inr (0, [.ref am, .ref oM, .ref oS, .ref oK, .ref oL, .ref oD])), (am, .inl (tm, 512, .inl f3))] H := hP
      have hD : va_D A [(h0, .inr (0, [.ref am, .ref oM, .ref oS, .ref oK, .ref oL, .ref oD])), (am, .inl (tm, 512, .inl f3))] := hD
      refine lv_iconst (v := 1) hx hb dX0_write_20 (by decide) ?_
      have hx4 : f3 (2 : Int32).toNatClampNeg = 1 := by first | assumption | omega
      have hx5 : f3 (3 : Int32).toNatClampNeg = 224 := by first | assumption | omega
      have hP9 := hP.sub (ws' := [(h0, .inr (0, [.ref am, .ref oM, .ref oS, .ref oK, .ref oL, .ref oD])), (am, .inl (tm, 512, .inl f3))]) [0, 1] rfl
      have hD9 := hD.sub (ws' := [(h0, .inr (0, [.ref am, .ref oM, .ref oS, .ref oK, .ref oL, .ref oD])), (am, .inl (tm, 512, .inl f3))]) [0, 1] (by decide) rfl
      have hK9 := hK.sub (tys' := [(tm, .int)]) [0] rfl
      exact W.zret (v := 1) hx hb hr (by decide) (fun t ht hW => ⟨⟨1, (f3), rfl, ⟨rfl, hx4, hx5⟩, by rw [ht]; exact hP9, va_K.moved hW.alike hK9, hD9⟩, hS.F ht⟩) hS.2.2 dX0_write_21
set_option maxHeartbeats 4000000 in
set_option maxRecDepth 100000 in
theorem c_writeWord (l : Launch) (dC : Nat → ClassId) (dI : Nat → Nat → Nat) (h0 : Nat) (ar : Nat) (oB : Nat) (oS : Nat) (ve : Int32) (am : Nat) (oM : Nat) (oK : Nat) (oL : Nat) (oD : Nat) (ad : Nat) (ab : Nat) (tm : ClassId) (f : Nat → Int32) (a0 : Int32) (v0 : Int32) (sz : Nat) (hF0 : f (2 : Int32).toNatClampNeg = 1) (hF1 : f (3 : Int32).toNatClampNeg = 224) (hH2 : 160 ≤ a0.toInt) (hH3 : a0.toInt < 1024) (hH4 : a0.toInt % 2 = 0) : Met l yX6_writeWord wsX6_writeWord ({ frames := 2, cells := 0, slots := 0, locals := 54 } : Room) (va_Pc [.ref h0, .int 0, .int a0, .int v0] (fun U => U.heap.size = sz ∧ va_P (dC, dI) vwCl [(h0, .inr (5, [.ref ar, .ref oB, .ref oS, .int 0, .int 0, .int 0, .int ve, .int 0, .int 0])), (oB, .inr (0, [.ref am, .ref oM, .ref oS, .ref oK, .ref oL, .ref oD])), (oM, .inr (3, [.ref ad, .ref ab, .int 0])), (am, .inl (tm, 512, .inl f))] U.heap ∧ va_K (dC, dI) vwCl [(tm, .int)] U ∧ va_D (fun _ => True) [(h0, .inr (5, [.ref ar, .ref oB, .ref oS, .int 0, .int 0, .int 0, .int ve, .int 0, .int 0])), (oB, .inr (0, [.ref am, .ref oM, .ref oS, .ref oK, .ref oL, .ref oD])), (oM, .inr (3, [.ref ad, .ref ab, .int 0])), (am, .inl (tm, 512, .inl f))])) (va_Qv (fun (u : (Nat → Int32)) => (u (2 : Int32).toNatClampNeg = 1) ∧ (u (3 : Int32).toNatClampNeg = 224)) (fun (u : (Nat → Int32)) (t : State) => va_P (dC, dI) vwCl [(h0, .inr (5, [.ref ar, .ref oB, .ref oS, .int 0, .int 0, .int 0, .int ve, .int 0, .int 0])), (oB, .inr (0, [.ref am, .ref oM, .ref oS, .ref oK, .ref oL, .ref oD])), (oM, .inr (3, [.ref ad, .ref ab, .int 0])), (am, .inl (tm, 512, .inl u))] t.heap ∧ va_K (dC, dI) vwCl [(tm, .int)] t ∧ va_D (va_A [(h0, .inr (5, [.ref ar, .ref oB, .ref oS, .int 0, .int 0, .int 0, .int ve, .int 0, .int 0])), (oB, .inr (0, [.ref am, .ref oM, .ref oS, .ref oK, .ref oL, .ref oD])), (oM, .inr (3, [.ref ad, .ref ab, .int 0])), (am, .inl (tm, 512, .inl f))] sz) [(h0, .inr (5, [.ref ar, .ref oB, .ref oS, .int 0, .int 0, .int 0, .int ve, .int 0, .int 0])), (oB, .inr (0, [.ref am, .ref oM, .ref oS, .ref oK, .ref oL, .ref oD])), (oM, .inr (3, [.ref ad, .ref ab, .int 0])), (am, .inl (tm, 512, .inl u))]) (va_A [(h0, .inr (5, [.ref ar, .ref oB, .ref oS, .int 0, .int 0, .int 0, .int ve, .int 0, .int 0])), (oB, .inr (0, [.ref am, .ref oM, .ref oS, .ref oK, .ref oL, .ref oD])), (oM, .inr (3, [.ref ad, .ref ab, .int 0])), (am, .inl (tm, 512, .inl f))] sz)) 0 0 (va_A [(h0, .inr (5, [.ref ar, .ref oB, .ref oS, .int 0, .int 0, .int 0, .int ve, .int 0, .int 0])), (oB, .inr (0, [.ref am, .ref oM, .ref oS, .ref oK, .ref oL, .ref oD])), (oM, .inr (3, [.ref ad, .ref ab, .int 0])), (am, .inl (tm, 512, .inl f))] sz) := by
  refine Met.ofW (cc := cX6_writeWord) (maxL := 4) (ret := none) (by decide) rfl ?_
  intro p e s m args below meth c s₁ B hml hv
  obtain ⟨rfl, hsz, hP, hK, hD0⟩ := hv
  have hx := B.exec
  have hb := B.bytes
  have hr := B.returns
  have hts := atoms_spec (ws := wsX6_writeWord) B.pre
  have hown : s.vm.findClass RX6 = some m.cls := findClass_of_methodNamed B.named
  have hlocks := B.notSynchronized
  have hD := hD0.self (sz := sz)
  generalize hAe : va_A [(h0, .inr (5, [.ref ar, .ref oB, .ref oS, .int 0, .int 0, .int 0, .int ve, .int 0, .int 0])), (oB, .inr (0, [.ref am, .ref oM, .ref oS, .ref oK, .ref oL, .ref oD])), (oM, .inr (3, [.ref ad, .ref ab, .int 0])), (am, .inl (tm, 512, .inl f))] sz = A at hD ⊢
  have hA : ∀ q : Nat, s.heap.size ≤ q → A q := fun q h => by rw [← hAe]; exact Or.inr (by omega)
  have hS0 : ∀ G : Heap, s.heap = G → va_S A s.heap G [] := fun G h => by subst h; exact va_S.rf
  generalize hHe : s.heap = H at hP ⊢
  have hS := hS0 H hHe
  have hP : va_P (dC, dI) vwCl [(h0, .inr (5, [.ref ar, .ref oB, .ref oS, .int 0, .int 0, .int 0, .int ve, .int 0, .int 0])), (oB, .inr (0, [.ref am, .ref oM, .ref oS, .ref oK, .ref oL, .ref oD])), (oM, .inr (3, [.ref ad, .ref ab, .int 0])), (am, .inl (tm, 512, .inl f))] H := hP
  have hD : va_D A [(h0, .inr (5, [.ref ar, .ref oB, .ref oS, .int 0, .int 0, .int 0, .int ve, .int 0, .int 0])), (oB, .inr (0, [.ref am, .ref oM, .ref oS, .ref oK, .ref oL, .ref oD])), (oM, .inr (3, [.ref ad, .ref ab, .int 0])), (am, .inl (tm, 512, .inl f))] := hD
  have hK : va_K (dC, dI) vwCl [(tm, .int)] s := hK
  have hl := lv_entry ([.ref h0, .int 0, .int a0, .int v0]) (n := 4) (Nat.le_of_ble_eq_true rfl)
  rw [lg_entry_eq]
  generalize (lg_sl ([.ref h0, .int 0, .int a0, .int v0]) ++ List.replicate (4 - (lg_sl ([.ref h0, .int 0, .int a0, .int v0])).length) Slot.unset).toArray = ls at hl ⊢
  have hl : lv_has ls 4 [(0, .ref h0), (1, .int 0), (2, .int a0), (3, .int v0)] := hl
  refine lv_iload_n hx hb dX6_writeWord_0 rfl (lv_at hl 2 rfl) ?_
  refine lv_iconst (v := 1) hx hb dX6_writeWord_1 (by decide) ?_
  refine lv_iand hx hb dX6_writeWord_2 ?_
  have f1 := fz_and1 a0
  refine lv_if_eq (tgt := 11) hx hb dX6_writeWord_3 (by decide) (fun c1 => ?_) (fun c1 => ?_)
  · have c1 := fz_eq.mp c1
    have kk0 : (0 : Int32).toInt = 0 := by decide
    refine lv_aload_n hx hb dX6_writeWord_11 rfl (lv_at hl 0 rfl) ?_
    refine va_get (D := (dC, dI)) (ci := 5) (v := .ref oB) (C := RX6) (T := TX6) (N := 9) hx hb hts (by decide +kernel) hown hK hP 0 rfl rfl 1 (by decide) (hts (.fieldLink RX6 33 "UnibusMachine$Processor" "bus" "LUnibusMachine$Bus;") (by decide +kernel)) (fun _ h9 => h9) rfl dX6_writeWord_12 ?_
    refine lv_aload_n hx hb dX6_writeWord_15 rfl (lv_at hl 0 rfl) ?_
    refine lv_iload_n hx hb dX6_writeWord_16 rfl (lv_at hl 1 rfl) ?_
    refine lv_iload_n hx hb dX6_writeWord_17 rfl (lv_at hl 2 rfl) ?_
    refine lv_iconst (v := 1) hx hb dX6_writeWord_18 (by decide) ?_
    have hPc := hP.sub (ws' := [(h0, .inr (5, [.ref ar, .ref oB, .ref oS, .int 0, .int 0, .int 0, .int ve, .int 0, .int 0])), (oB, .inr (0, [.ref am, .ref oM, .ref oS, .ref oK, .ref oL, .ref oD])), (oM, .inr (3, [.ref ad, .ref ab, .int 0]))]) [0, 1, 2] rfl
    have hDc := hD.sub (ws' := [(h0, .inr (5, [.ref ar, .ref oB, .ref oS, .int 0, .int 0, .int 0, .int ve, .int 0, .int 0])), (oB, .inr (0, [.ref am, .ref oM, .ref oS, .ref oK, .ref oL, .ref oD])), (oM, .inr (3, [.ref ad, .ref ab, .int 0]))]) [0, 1, 2] (by decide) rfl
    have hKc := hK.sub (tys' := []) [] rfl
    have hFc := va_free (wc := [(h0, .inr (5, [.ref ar, .ref oB, .ref oS, .int 0, .int 0, .int 0, .int ve, .int 0, .int 0])), (oB, .inr (0, [.ref am, .ref oM, .ref oS, .ref oK, .ref oL, .ref oD])), (oM, .inr (3, [.ref ad, .ref ab, .int 0]))]) hD hS hA [0, 1, 2] rfl
    refine va_calli (va_runV (As := [.int 0, .int a0, .int 1]) (rest := [.ref oB]) ⟨hx, hb, hml, hown, hts⟩ (c_placeW l dC dI h0 ar oB oS ve am oM oK oL oD ad ab a0 H.size (by first | assumption | omega | decide)) (cwV 3 hts gX6_writeWord_X6_place rfl rfl rfl (by decide +kernel) ⟨Nat.le_of_ble_eq_true rfl, Nat.le_of_ble_eq_true rfl⟩) ⟨fun a U g mk q => by obtain ⟨q0, q1, qP, qK, qD⟩ := q; exact ⟨q0, q1, qP, va_K.moved (u := U) (U := U.calling g mk a) (Vm.Alike.refl U.vm) qK, qD⟩, va_recv hKc hPc (ci := 5) (q0 := 0) rfl rfl, fun U hU hW => ⟨rfl, by rw [hU], by rw [hU]; exact hPc, va_K.moved hW.alike hKc, hDc.weaken (fun _ _ _ _ => trivial)⟩⟩ rfl rfl hl.1 rfl (lv_room (Nat.le_of_ble_eq_true rfl)) dX6_writeWord_19 ⟨Nat.le_of_ble_eq_true rfl, Nat.le_of_ble_eq_true rfl⟩) hS (fun q _ h => hFc q h) hFc (fun r2 u3 t H1 locs ht hvm hw hB hz1 hk1 hS => ?_)
    obtain ⟨hP1, hK1, hD1⟩ := hB
    rw [ht] at hP1
    have hK1 := va_K.moved hvm.symm hK1
    try dsimp only at hw
    obtain ⟨hP, hD⟩ := va_join (wr := [(am, .inl (tm, 512, .inl f))]) (w1 := [(h0, .inr (5, [.ref ar, .ref oB, .ref oS, .int 0, .int 0, .int 0, .int ve, .int 0, .int 0])), (oB, .inr (0, [.ref am, .ref oM, .ref oS, .ref oK, .ref oL, .ref oD])), (oM, .inr (3, [.ref ad, .ref ab, .int 0]))]) hP hD [0, 1, 2] [3] rfl rfl (by decide) (by decide) hk1 hFc hP1 hD1
    have hK := (hK.sub (tys' := [(tm, .int)]) [0] rfl).app hK1
    generalize H1 = H at hP hS ⊢
    have hP : va_P (dC, dI) vwCl [(am, .inl (tm, 512, .inl f)), (h0, .inr (5, [.ref ar, .ref oB, .ref oS, .int 0, .int 0, .int 0, .int ve, .int 0, .int 0])), (oB, .inr (0, [.ref am, .ref oM, .ref oS, .ref oK, .ref oL, .ref oD])), (oM, .inr (3, [.ref ad, .ref ab, .int 0]))] H := hP
    have hD : va_D A [(am, .inl (tm, 512, .inl f)), (h0, .inr (5, [.ref ar, .ref oB, .ref oS, .int 0, .int 0, .int 0, .int ve, .int 0, .int 0])), (oB, .inr (0, [.ref am, .ref oM, .ref oS, .ref oK, .ref oL, .ref oD])), (oM, .inr (3, [.ref ad, .ref ab, .int 0]))] := hD
    have hK : va_K (dC, dI) vwCl [(tm, .int)] s := hK
    refine W.widen (k := 0) (n := 0) (Nat.le_of_ble_eq_true rfl) (Nat.le_of_ble_eq_true rfl) ?_
    obtain rfl := hw
    refine lv_iload_n hx hb dX6_writeWord_22 rfl (lv_at hl 3 rfl) ?_
    have hPc := hP.sub (ws' := [(oB, .inr (0, [.ref am, .ref oM, .ref oS, .ref oK, .ref oL, .ref oD])), (am, .inl (tm, 512, .inl f))]) [2, 0] rfl
    have hDc := hD.sub (ws' := [(oB, .inr (0, [.ref am, .ref oM, .ref oS, .ref oK, .ref oL, .ref oD])), (am, .inl (tm, 512, .inl f))]) [2, 0] (by decide) rfl
    have hKc := hK.sub (tys' := [(tm, .int)]) [0] rfl
    have hFc := va_free (wc := [(oB, .inr (0, [.ref am, .ref oM, .ref oS, .ref oK, .ref oL, .ref oD])), (am, .inl (tm, 512, .inl f))]) hD hS hA [2, 0] rfl
    refine va_calli (va_runV (As := [.int a0, .int v0]) (rest := []) ⟨hx, hb, hml, hown, hts⟩ (c_writeM l dC dI oB am oM oS oK oL oD tm f a0 v0 H.size (by first | assumption | omega | decide) (by first | assumption | omega | decide) (by first | assumption | omega | decide) (by first | assumption | omega | decide) (by first | assumption | omega | decide)) (cwV 2 hts gX6_writeWord_X0_write rfl rfl rfl (by decide +kernel) ⟨Nat.le_of_ble_eq_true rfl, Nat.le_of_ble_eq_true rfl⟩) ⟨fun a U g mk q => by obtain ⟨q0, q1, qP, qK, qD⟩ := q; exact ⟨q0, q1, qP, va_K.moved (u := U) (U := U.calling g mk a) (Vm.Alike.refl U.vm) qK, qD⟩, va_recv hKc hPc (ci := 0) (q0 := 0) rfl rfl, fun U hU hW => ⟨rfl, by rw [hU], by rw [hU]; exact hPc, va_K.moved hW.alike hKc, hDc.weaken (fun _ _ _ _ => trivial)⟩⟩ rfl rfl hl.1 rfl (lv_room (Nat.le_of_ble_eq_true rfl)) dX6_writeWord_23 ⟨Nat.le_of_ble_eq_true rfl, Nat.le_of_ble_eq_true rfl⟩) hS (fun q _ h => hFc q h) hFc (fun r4 u5 t H1 locs ht hvm hw hB hz1 hk1 hS => ?_)
    obtain ⟨hP1, hK1, hD1⟩ := hB
    rw [ht] at hP1
    have hK1 := va_K.moved hvm.symm hK1
    try dsimp only at hw
    obtain ⟨hP, hD⟩ := va_join (wr := [(h0, .inr (5, [.ref ar, .ref oB, .ref oS, .int 0, .int 0, .int 0, .int ve, .int 0, .int 0])), (oM, .inr (3, [.ref ad, .ref ab, .int 0]))]) (w1 := [(oB, .inr (0, [.ref am, .ref oM, .ref oS, .ref oK, .ref oL, .ref oD])), (am, .inl (tm, 512, .inl u5))]) hP hD [2, 0] [1, 3] rfl rfl (by decide) (by decide) hk1 hFc hP1 hD1
    have hK := (hK.sub (tys' := []) [] rfl).app hK1
    generalize H1 = H at hP hS ⊢
    have hP : va_P (dC, dI) vwCl [(h0, .inr (5, [.ref ar, .ref oB, .ref oS, .int 0, .int 0, .int 0, .int ve, .int 0, .int 0])), (oM, .inr (3, [.ref ad, .ref ab, .int 0])), (oB, .inr (0, [.ref am, .ref oM, .ref oS, .ref oK, .ref oL, .ref oD])), (am, .inl (tm, 512, .inl u5))] H := hP
    have hD : va_D A [(h0, .inr (5, [.ref ar, .ref oB, .ref oS, .int 0, .int 0, .int 0, .int ve, .int 0, .int 0])), (oM, .inr (3, [.ref ad, .ref ab, .int 0])), (oB, .inr (0, [.ref am, .ref oM, .ref oS, .ref oK, .ref oL, .ref oD])), (am, .inl (tm, 512, .inl u5))] := hD
    have hK : va_K (dC, dI) vwCl [(tm, .int)] s := hK
    refine W.widen (k := 0) (n := 0) (Nat.le_of_ble_eq_true rfl) (Nat.le_of_ble_eq_true rfl) ?_
    obtain ⟨rfl, _, _⟩ := hw
    refine lv_if_ne (tgt := 34) hx hb dX6_writeWord_26 (by decide) (fun c6 => ?_) (fun c6 => ?_)
    · skip
      have hx7 : u5 (2 : Int32).toNatClampNeg = 1 := by first | assumption | omega
      have hx8 : u5 (3 : Int32).toNatClampNeg = 224 := by first | assumption | omega
      have hP9 := hP.sub (ws' := [(h0, .inr (5, [.ref ar, .ref oB, .ref oS, .int 0, .int 0, .int 0, .int ve, .int 0, .int 0])), (oB, .inr (0, [.ref am, .ref oM, .ref oS, .ref oK, .ref oL, .ref oD])), (oM, .inr (3, [.ref ad, .ref ab, .int 0])), (am, .inl (tm, 512, .inl u5))]) [0, 2, 1, 3] rfl
      have hD9 := hD.sub (ws' := [(h0, .inr (5, [.ref ar, .ref oB, .ref oS, .int 0, .int 0, .int 0, .int ve, .int 0, .int 0])), (oB, .inr (0, [.ref am, .ref oM, .ref oS, .ref oK, .ref oL, .ref oD])), (oM, .inr (3, [.ref ad, .ref ab, .int 0])), (am, .inl (tm, 512, .inl u5))]) [0, 2, 1, 3] (by decide) rfl
      have hK9 := hK.sub (tys' := [(tm, .int)]) [0] rfl
      exact W.vret hx hb hr (fun t ht hW => ⟨⟨(u5), rfl, ⟨hx7, hx8⟩, by rw [ht]; exact hP9, va_K.moved hW.alike hK9, hD9⟩, hS.F ht⟩) hS.2.2 dX6_writeWord_34
    · exact absurd c6 (by decide)
  · have c1 := fz_ne.mp c1
    have kk0 : (0 : Int32).toInt = 0 := by decide
    exact False.elim (by omega)
set_option maxHeartbeats 4000000 in
set_option maxRecDepth 100000 in
theorem c_push (l : Launch) (dC : Nat → ClassId) (dI : Nat → Nat → Nat) (h0 : Nat) (ar : Nat) (oB : Nat) (oS : Nat) (ve : Int32) (am : Nat) (oM : Nat) (oK : Nat) (oL : Nat) (oD : Nat) (ad : Nat) (ab : Nat) (tm : ClassId) (f : Nat → Int32) (tr : ClassId) (g : Nat → Int32) (z : Int) (v0 : Int32) (sz : Nat) (hF0 : f (2 : Int32).toNatClampNeg = 1) (hF1 : f (3 : Int32).toNatClampNeg = 224) (hF2 : g (7 : Int32).toNatClampNeg = 1) (hF3 : (g (6 : Int32).toNatClampNeg).toInt = z) (hH4 : 166 ≤ z) (hH5 : z ≤ 1024) (hH6 : z % 2 = 0) : Met l yX6_push wsX6_push ({ frames := 3, cells := 0, slots := 0, locals := 80 } : Room) (va_Pc [.ref h0, .int v0] (fun U => U.heap.size = sz ∧ va_P (dC, dI) vwCl [(h0, .inr (5, [.ref ar, .ref oB, .ref oS, .int 0, .int 0, .int 0, .int ve, .int 0, .int 0])), (oS, .inr (6, [.int 224, .int (-1)])), (oB, .inr (0, [.ref am, .ref oM, .ref oS, .ref oK, .ref oL, .ref oD])), (oM, .inr (3, [.ref ad, .ref ab, .int 0])), (am, .inl (tm, 512, .inl f)), (ar, .inl (tr, 8, .inl g))] U.heap ∧ va_K (dC, dI) vwCl [(tm, .int), (tr, .int)] U ∧ va_D (fun _ => True) [(h0, .inr (5, [.ref ar, .ref oB, .ref oS, .int 0, .int 0, .int 0, .int ve, .int 0, .int 0])), (oS, .inr (6, [.int 224, .int (-1)])), (oB, .inr (0, [.ref am, .ref oM, .ref oS, .ref oK, .ref oL, .ref oD])), (oM, .inr (3, [.ref ad, .ref ab, .int 0])), (am, .inl (tm, 512, .inl f)), (ar, .inl (tr, 8, .inl g))])) (va_Qv (fun (u : (Nat → Int32) × (Nat → Int32)) => (u.1 (2 : Int32).toNatClampNeg = 1) ∧ (u.1 (3 : Int32).toNatClampNeg = 224) ∧ (u.2 (7 : Int32).toNatClampNeg = 1) ∧ ((u.2 (6 : Int32).toNatClampNeg).toInt = z - 2)) (fun (u : (Nat → Int32) × (Nat → Int32)) (t : State) => va_P (dC, dI) vwCl [(h0, .inr (5, [.ref ar, .ref oB, .ref oS, .int 0, .int 0, .int 0, .int ve, .int 0, .int 0])), (oS, .inr (6, [.int 224, .int (-1)])), (oB, .inr (0, [.ref am, .ref oM, .ref oS, .ref oK, .ref oL, .ref oD])), (oM, .inr (3, [.ref ad, .ref ab, .int 0])), (am, .inl (tm, 512, .inl u.1)), (ar, .inl (tr, 8, .inl u.2))] t.heap ∧ va_K (dC, dI) vwCl [(tm, .int), (tr, .int)] t ∧ va_D (va_A [(h0, .inr (5, [.ref ar, .ref oB, .ref oS, .int 0, .int 0, .int 0, .int ve, .int 0, .int 0])), (oS, .inr (6, [.int 224, .int (-1)])), (oB, .inr (0, [.ref am, .ref oM, .ref oS, .ref oK, .ref oL, .ref oD])), (oM, .inr (3, [.ref ad, .ref ab, .int 0])), (am, .inl (tm, 512, .inl f)), (ar, .inl (tr, 8, .inl g))] sz) [(h0, .inr (5, [.ref ar, .ref oB, .ref oS, .int 0, .int 0, .int 0, .int ve, .int 0, .int 0])), (oS, .inr (6, [.int 224, .int (-1)])), (oB, .inr (0, [.ref am, .ref oM, .ref oS, .ref oK, .ref oL, .ref oD])), (oM, .inr (3, [.ref ad, .ref ab, .int 0])), (am, .inl (tm, 512, .inl u.1)), (ar, .inl (tr, 8, .inl u.2))]) (va_A [(h0, .inr (5, [.ref ar, .ref oB, .ref oS, .int 0, .int 0, .int 0, .int ve, .int 0, .int 0])), (oS, .inr (6, [.int 224, .int (-1)])), (oB, .inr (0, [.ref am, .ref oM, .ref oS, .ref oK, .ref oL, .ref oD])), (oM, .inr (3, [.ref ad, .ref ab, .int 0])), (am, .inl (tm, 512, .inl f)), (ar, .inl (tr, 8, .inl g))] sz)) 0 0 (va_A [(h0, .inr (5, [.ref ar, .ref oB, .ref oS, .int 0, .int 0, .int 0, .int ve, .int 0, .int 0])), (oS, .inr (6, [.int 224, .int (-1)])), (oB, .inr (0, [.ref am, .ref oM, .ref oS, .ref oK, .ref oL, .ref oD])), (oM, .inr (3, [.ref ad, .ref ab, .int 0])), (am, .inl (tm, 512, .inl f)), (ar, .inl (tr, 8, .inl g))] sz) := by
  refine Met.ofW (cc := cX6_push) (maxL := 2) (ret := none) (by decide) rfl ?_
  intro p e s m args below meth c s₁ B hml hv
  obtain ⟨rfl, hsz, hP, hK, hD0⟩ := hv
  have hx := B.exec
  have hb := B.bytes
  have hr := B.returns
  have hts := atoms_spec (ws := wsX6_push) B.pre
  have hown : s.vm.findClass RX6 = some m.cls := findClass_of_methodNamed B.named
  have hlocks := B.notSynchronized
  have hD := hD0.self (sz := sz)
  generalize hAe : va_A [(h0, .inr (5, [.ref ar, .ref oB, .ref oS, .int 0, .int 0, .int 0, .int ve, .int 0, .int 0])), (oS, .inr (6, [.int 224, .int (-1)])), (oB, .inr (0, [.ref am, .ref oM, .ref oS, .ref oK, .ref oL, .ref oD])), (oM, .inr (3, [.ref ad, .ref ab, .int 0])), (am, .inl (tm, 512, .inl f)), (ar, .inl (tr, 8, .inl g))] sz = A at hD ⊢
  have hA : ∀ q : Nat, s.heap.size ≤ q → A q := fun q h => by rw [← hAe]; exact Or.inr (by omega)
  have hS0 : ∀ G : Heap, s.heap = G → va_S A s.heap G [] := fun G h => by subst h; exact va_S.rf
  generalize hHe : s.heap = H at hP ⊢
  have hS := hS0 H hHe
  have hP : va_P (dC, dI) vwCl [(h0, .inr (5, [.ref ar, .ref oB, .ref oS, .int 0, .int 0, .int 0, .int ve, .int 0, .int 0])), (oS, .inr (6, [.int 224, .int (-1)])), (oB, .inr (0, [.ref am, .ref oM, .ref oS, .ref oK, .ref oL, .ref oD])), (oM, .inr (3, [.ref ad, .ref ab, .int 0])), (am, .inl (tm, 512, .inl f)), (ar, .inl (tr, 8, .inl g))] H := hP
  have hD : va_D A [(h0, .inr (5, [.ref ar, .ref oB, .ref oS, .int 0, .int 0, .int 0, .int ve, .int 0, .int 0])), (oS, .inr (6, [.int 224, .int (-1)])), (oB, .inr (0, [.ref am, .ref oM, .ref oS, .ref oK, .ref oL, .ref oD])), (oM, .inr (3, [.ref ad, .ref ab, .int 0])), (am, .inl (tm, 512, .inl f)), (ar, .inl (tr, 8, .inl g))] := hD
  have hK : va_K (dC, dI) vwCl [(tm, .int), (tr, .int)] s := hK
  have hl := lv_entry ([.ref h0, .int v0]) (n := 2) (Nat.le_of_ble_eq_true rfl)
  rw [lg_entry_eq]
  generalize (lg_sl ([.ref h0, .int v0]) ++ List.replicate (2 - (lg_sl ([.ref h0, .int v0])).length) Slot.unset).toArray = ls at hl ⊢
  have hl : lv_has ls 2 [(0, .ref h0), (1, .int v0)] := hl
  refine lv_aload_n hx hb dX6_push_0 rfl (lv_at hl 0 rfl) ?_
  refine lv_aload_n hx hb dX6_push_1 rfl (lv_at hl 0 rfl) ?_
  have hPc := hP.sub (ws' := [(h0, .inr (5, [.ref ar, .ref oB, .ref oS, .int 0, .int 0, .int 0, .int ve, .int 0, .int 0])), (oS, .inr (6, [.int 224, .int (-1)]))]) [0, 1] rfl
  have hDc := hD.sub (ws' := [(h0, .inr (5, [.ref ar, .ref oB, .ref oS, .int 0, .int 0, .int 0, .int ve, .int 0, .int 0])), (oS, .inr (6, [.int 224, .int (-1)]))]) [0, 1] (by decide) rfl
  have hKc := hK.sub (tys' := []) [] rfl
  have hFc := va_free (wc := [(h0, .inr (5, [.ref ar, .ref oB, .ref oS, .int 0, .int 0, .int 0, .int ve, .int 0, .int 0])), (oS, .inr (6, [.int 224, .int (-1)]))]) hD hS hA [0, 1] rfl
  refine va_calli (va_runV (As := []) (rest := [.ref h0]) ⟨hx, hb, hml, hown, hts⟩ (c_mode l dC dI h0 ar oB oS ve H.size) (cwV 0 hts gX6_push_X6_mode rfl rfl rfl (by decide +kernel) ⟨Nat.le_of_ble_eq_true rfl, Nat.le_of_ble_eq_true rfl⟩) ⟨fun a U g mk q => by obtain ⟨q0, q1, qP, qK, qD⟩ := q; exact ⟨q0, q1, qP, va_K.moved (u := U) (U := U.calling g mk a) (Vm.Alike.refl U.vm) qK, qD⟩, va_recv hKc hPc (ci := 5) (q0 := 0) rfl rfl, fun U hU hW => ⟨rfl, by rw [hU], by rw [hU]; exact hPc, va_K.moved hW.alike hKc, hDc.weaken (fun _ _ _ _ => trivial)⟩⟩ rfl rfl hl.1 rfl (lv_room (Nat.le_of_ble_eq_true rfl)) dX6_push_2 ⟨Nat.le_of_ble_eq_true rfl, Nat.le_of_ble_eq_true rfl⟩) hS (fun q _ h => hFc q h) hFc (fun r1 u2 t H1 locs ht hvm hw hB hz1 hk1 hS => ?_)
  obtain ⟨hP1, hK1, hD1⟩ := hB
  rw [ht] at hP1
  have hK1 := va_K.moved hvm.symm hK1
  try dsimp only at hw
  obtain ⟨hP, hD⟩ := va_join (wr := [(oB, .inr (0, [.ref am, .ref oM, .ref oS, .ref oK, .ref oL, .ref oD])), (oM, .inr (3, [.ref ad, .ref ab, .int 0])), (am, .inl (tm, 512, .inl f)), (ar, .inl (tr, 8, .inl g))]) (w1 := [(h0, .inr (5, [.ref ar, .ref oB, .ref oS, .int 0, .int 0, .int 0, .int ve, .int 0, .int 0])), (oS, .inr (6, [.int 224, .int (-1)]))]) hP hD [0, 1] [2, 3, 4, 5] rfl rfl (by decide) (by decide) hk1 hFc hP1 hD1
  have hK := (hK.sub (tys' := [(tm, .int), (tr, .int)]) [0, 1] rfl).app hK1
  generalize H1 = H at hP hS ⊢
  have hP : va_P (dC, dI) vwCl [(oB, .inr (0, [.ref am, .ref oM, .ref oS, .ref oK, .ref oL, .ref oD])), (oM, .inr (3, [.ref ad, .ref ab, .int 0])), (am, .inl (tm, 512, .inl f)), (ar, .inl (tr, 8, .inl g)), (h0, .inr (5, [.ref ar, .ref oB, .ref oS, .int 0, .int 0, .int 0, .int ve, .int 0, .int 0])), (oS, .inr (6, [.int 224, .int (-1)]))] H := hP
  have hD : va_D A [(oB, .inr (0, [.ref am, .ref oM, .ref oS, .ref oK, .ref oL, .ref oD])), (oM, .inr (3, [.ref ad, .ref ab, .int 0])), (am, .inl (tm, 512, .inl f)), (ar, .inl (tr, 8, .inl g)), (h0, .inr (5, [.ref ar, .ref oB, .ref oS, .int 0, .int 0, .int 0, .int ve, .int 0, .int 0])), (oS, .inr (6, [.int 224, .int (-1)]))] := hD
  have hK : va_K (dC, dI) vwCl [(tm, .int), (tr, .int)] s := hK
  refine W.widen (k := 0) (n := 0) (Nat.le_of_ble_eq_true rfl) (Nat.le_of_ble_eq_true rfl) ?_
  obtain rfl := hw
  refine lv_aload_n hx hb dX6_push_5 rfl (lv_at hl 0 rfl) ?_
  refine lv_bipush (v := 6) hx hb dX6_push_6 (by decide) ?_
  refine lv_iconst (v := 2) hx hb dX6_push_8 (by decide) ?_
  have hPc := hP.sub (ws' := [(h0, .inr (5, [.ref ar, .ref oB, .ref oS, .int 0, .int 0, .int 0, .int ve, .int 0, .int 0])), (ar, .inl (tr, 8, .inl g))]) [4, 3] rfl
  have hDc := hD.sub (ws' := [(h0, .inr (5, [.ref ar, .ref oB, .ref oS, .int 0, .int 0, .int 0, .int ve, .int 0, .int 0])), (ar, .inl (tr, 8, .inl g))]) [4, 3] (by decide) rfl
  have hKc := hK.sub (tys' := [(tr, .int)]) [1] rfl
  have hFc := va_free (wc := [(h0, .inr (5, [.ref ar, .ref oB, .ref oS, .int 0, .int 0, .int 0, .int ve, .int 0, .int 0])), (ar, .inl (tr, 8, .inl g))]) hD hS hA [4, 3] rfl
  refine va_calli (va_runV (As := [.int 6, .int 2]) (rest := [.int 0, .ref h0]) ⟨hx, hb, hml, hown, hts⟩ (c_fall6 l dC dI h0 ar oB oS ve tr g z H.size (by first | assumption | omega | decide) (by first | assumption | omega | decide) (by first | assumption | omega | decide) (by first | assumption | omega | decide) (by first | assumption | omega | decide)) (cwV 2 hts gX6_push_X6_fall rfl rfl rfl (by decide +kernel) ⟨Nat.le_of_ble_eq_true rfl, Nat.le_of_ble_eq_true rfl⟩) ⟨fun a U g mk q => by obtain ⟨q0, q1, qP, qK, qD⟩ := q; exact ⟨q0, q1, qP, va_K.moved (u := U) (U := U.calling g mk a) (Vm.Alike.refl U.vm) qK, qD⟩, va_recv hKc hPc (ci := 5) (q0 := 0) rfl rfl, fun U hU hW => ⟨rfl, by rw [hU], by rw [hU]; exact hPc, va_K.moved hW.alike hKc, hDc.weaken (fun _ _ _ _ => trivial)⟩⟩ rfl rfl hl.1 rfl (lv_room (Nat.le_of_ble_eq_true rfl)) dX6_push_9 ⟨Nat.le_of_ble_eq_true rfl, Nat.le_of_ble_eq_true rfl⟩) hS (fun q _ h => hFc q h) hFc (fun r3 u4 t H1 locs ht hvm hw hB hz1 hk1 hS => ?_)
  obtain ⟨hP1, hK1, hD1⟩ := hB
  rw [ht] at hP1
  have hK1 := va_K.moved hvm.symm hK1
  try dsimp only at hw
  obtain ⟨hP, hD⟩ := va_join (wr := [(oB, .inr (0, [.ref am, .ref oM, .ref oS, .ref oK, .ref oL, .ref oD])), (oM, .inr (3, [.ref ad, .ref ab, .int 0])), (am, .inl (tm, 512, .inl f)), (oS, .inr (6, [.int 224, .int (-1)]))]) (w1 := [(h0, .inr (5, [.ref ar, .ref oB, .ref oS, .int 0, .int 0, .int 0, .int ve, .int 0, .int 0])), (ar, .inl (tr, 8, .inl u4))]) hP hD [4, 3] [0, 1, 2, 5] rfl rfl (by decide) (by decide) hk1 hFc hP1 hD1
  have hK := (hK.sub (tys' := [(tm, .int)]) [0] rfl).app hK1
  generalize H1 = H at hP hS ⊢
  have hP : va_P (dC, dI) vwCl [(oB, .inr (0, [.ref am, .ref oM, .ref oS, .ref oK, .ref oL, .ref oD])), (oM, .inr (3, [.ref ad, .ref ab, .int 0])), (am, .inl (tm, 512, .inl f)), (oS, .inr (6, [.int 224, .int (-1)])), (h0, .inr (5, [.ref ar, .ref oB, .ref oS, .int 0, .int 0, .int 0, .int ve, .int 0, .int 0])), (ar, .inl (tr, 8, .inl u4))] H := hP
  have hD : va_D A [(oB, .inr (0, [.ref am, .ref oM, .ref oS, .ref oK, .ref oL, .ref oD])), (oM, .inr (3, [.ref ad, .ref ab, .int 0])), (am, .inl (tm, 512, .inl f)), (oS, .inr (6, [.int 224, .int (-1)])), (h0, .inr (5, [.ref ar, .ref oB, .ref oS, .int 0, .int 0, .int 0, .int ve, .int 0, .int 0])), (ar, .inl (tr, 8, .inl u4))] := hD
  have hK : va_K (dC, dI) vwCl [(tm, .int), (tr, .int)] s := hK
  refine W.widen (k := 0) (n := 0) (Nat.le_of_ble_eq_true rfl) (Nat.le_of_ble_eq_true rfl) ?_
  obtain ⟨rfl, _, _⟩ := hw
  refine lv_iload_n hx hb dX6_push_12 rfl (lv_at hl 1 rfl) ?_
  have hPc := hP.sub (ws' := [(h0, .inr (5, [.ref ar, .ref oB, .ref oS, .int 0, .int 0, .int 0, .int ve, .int 0, .int 0])), (oB, .inr (0, [.ref am, .ref oM, .ref oS, .ref oK, .ref oL, .ref oD])), (oM, .inr (3, [.ref ad, .ref ab, .int 0])), (am, .inl (tm, 512, .inl f))]) [4, 0, 1, 2] rfl
  have hDc := hD.sub (ws' := [(h0, .inr (5, [.ref ar, .ref oB, .ref oS, .int 0, .int 0, .int 0, .int ve, .int 0, .int 0])), (oB, .inr (0, [.ref am, .ref oM, .ref oS, .ref oK, .ref oL, .ref oD])), (oM, .inr (3, [.ref ad, .ref ab, .int 0])), (am, .inl (tm, 512, .inl f))]) [4, 0, 1, 2] (by decide) rfl
  have hKc := hK.sub (tys' := [(tm, .int)]) [0] rfl
  have hFc := va_free (wc := [(h0, .inr (5, [.ref ar, .ref oB, .ref oS, .int 0, .int 0, .int 0, .int ve, .int 0, .int 0])), (oB, .inr (0, [.ref am, .ref oM, .ref oS, .ref oK, .ref oL, .ref oD])), (oM, .inr (3, [.ref ad, .ref ab, .int 0])), (am, .inl (tm, 512, .inl f))]) hD hS hA [4, 0, 1, 2] rfl
  refine va_callv (va_runV (As := [.int 0, .int (u4 (6 : Int32).toNatClampNeg), .int v0]) (rest := []) ⟨hx, hb, hml, hown, hts⟩ (c_writeWord l dC dI h0 ar oB oS ve am oM oK oL oD ad ab tm f (u4 (6 : Int32).toNatClampNeg) v0 H.size (by first | assumption | omega | decide) (by first | assumption | omega | decide) (by first | assumption | omega | decide) (by first | assumption | omega | decide) (by first | assumption | omega | decide)) (cwV 3 hts gX6_push_X6_writeWord rfl rfl rfl (by decide +kernel) ⟨Nat.le_of_ble_eq_true rfl, Nat.le_of_ble_eq_true rfl⟩) ⟨fun a U g mk q => by obtain ⟨q0, q1, qP, qK, qD⟩ := q; exact ⟨q0, q1, qP, va_K.moved (u := U) (U := U.calling g mk a) (Vm.Alike.refl U.vm) qK, qD⟩, va_recv hKc hPc (ci := 5) (q0 := 0) rfl rfl, fun U hU hW => ⟨rfl, by rw [hU], by rw [hU]; exact hPc, va_K.moved hW.alike hKc, hDc.weaken (fun _ _ _ _ => trivial)⟩⟩ rfl rfl hl.1 rfl (lv_room (Nat.le_of_ble_eq_true rfl)) dX6_push_13 ⟨Nat.le_of_ble_eq_true rfl, Nat.le_of_ble_eq_true rfl⟩) hS (fun q _ h => hFc q h) hFc (fun u6 t H1 locs ht hvm hw hB hz1 hk1 hS => ?_)
  obtain ⟨hP1, hK1, hD1⟩ := hB
  rw [ht] at hP1
  have hK1 := va_K.moved hvm.symm hK1
  try dsimp only at hw
  obtain ⟨hP, hD⟩ := va_join (wr := [(oS, .inr (6, [.int 224, .int (-1)])), (ar, .inl (tr, 8, .inl u4))]) (w1 := [(h0, .inr (5, [.ref ar, .ref oB, .ref oS, .int 0, .int 0, .int 0, .int ve, .int 0, .int 0])), (oB, .inr (0, [.ref am, .ref oM, .ref oS, .ref oK, .ref oL, .ref oD])), (oM, .inr (3, [.ref ad, .ref ab, .int 0])), (am, .inl (tm, 512, .inl u6))]) hP hD [4, 0, 1, 2] [3, 5] rfl rfl (by decide) (by decide) hk1 hFc hP1 hD1
  have hK := (hK.sub (tys' := [(tr, .int)]) [1] rfl).app hK1
  generalize H1 = H at hP hS ⊢
  have hP : va_P (dC, dI) vwCl [(oS, .inr (6, [.int 224, .int (-1)])), (ar, .inl (tr, 8, .inl u4)), (h0, .inr (5, [.ref ar, .ref oB, .ref oS, .int 0, .int 0, .int 0, .int ve, .int 0, .int 0])), (oB, .inr (0, [.ref am, .ref oM, .ref oS, .ref oK, .ref oL, .ref oD])), (oM, .inr (3, [.ref ad, .ref ab, .int 0])), (am, .inl (tm, 512, .inl u6))] H := hP
  have hD : va_D A [(oS, .inr (6, [.int 224, .int (-1)])), (ar, .inl (tr, 8, .inl u4)), (h0, .inr (5, [.ref ar, .ref oB, .ref oS, .int 0, .int 0, .int 0, .int ve, .int 0, .int 0])), (oB, .inr (0, [.ref am, .ref oM, .ref oS, .ref oK, .ref oL, .ref oD])), (oM, .inr (3, [.ref ad, .ref ab, .int 0])), (am, .inl (tm, 512, .inl u6))] := hD
  have hK : va_K (dC, dI) vwCl [(tr, .int), (tm, .int)] s := hK
  refine W.widen (k := 0) (n := 0) (Nat.le_of_ble_eq_true rfl) (Nat.le_of_ble_eq_true rfl) ?_
  obtain ⟨_, _⟩ := hw
  have hx7 : u6 (2 : Int32).toNatClampNeg = 1 := by first | assumption | omega
  have hx8 : u6 (3 : Int32).toNatClampNeg = 224 := by first | assumption | omega
  have hx9 : u4 (7 : Int32).toNatClampNeg = 1 := by first | assumption | omega
  have hx10 : (u4 (6 : Int32).toNatClampNeg).toInt = z - 2 := by first | assumption | omega
  have hP9 := hP.sub (ws' := [(h0, .inr (5, [.ref ar, .ref oB, .ref oS, .int 0, .int 0, .int 0, .int ve, .int 0, .int 0])), (oS, .inr (6, [.int 224, .int (-1)])), (oB, .inr (0, [.ref am, .ref oM, .ref oS, .ref oK, .ref oL, .ref oD])), (oM, .inr (3, [.ref ad, .ref ab, .int 0])), (am, .inl (tm, 512, .inl u6)), (ar, .inl (tr, 8, .inl u4))]) [2, 0, 3, 4, 5, 1] rfl
  have hD9 := hD.sub (ws' := [(h0, .inr (5, [.ref ar, .ref oB, .ref oS, .int 0, .int 0, .int 0, .int ve, .int 0, .int 0])), (oS, .inr (6, [.int 224, .int (-1)])), (oB, .inr (0, [.ref am, .ref oM, .ref oS, .ref oK, .ref oL, .ref oD])), (oM, .inr (3, [.ref ad, .ref ab, .int 0])), (am, .inl (tm, 512, .inl u6)), (ar, .inl (tr, 8, .inl u4))]) [2, 0, 3, 4, 5, 1] (by decide) rfl
  have hK9 := hK.sub (tys' := [(tm, .int), (tr, .int)]) [1, 0] rfl
  exact W.vret hx hb hr (fun t ht hW => ⟨⟨(u6, u4), rfl, ⟨hx7, hx8, hx9, hx10⟩, by rw [ht]; exact hP9, va_K.moved hW.alike hK9, hD9⟩, hS.F ht⟩) hS.2.2 dX6_push_16
set_option maxHeartbeats 4000000 in
set_option maxRecDepth 100000 in
theorem c_trap4 (l : Launch) (dC : Nat → ClassId) (dI : Nat → Nat → Nat) (h0 : Nat) (ar : Nat) (oB : Nat) (oS : Nat) (ve : Int32) (am : Nat) (oM : Nat) (oK : Nat) (oL : Nat) (oD : Nat) (ad : Nat) (ab : Nat) (tm : ClassId) (f : Nat → Int32) (tr : ClassId) (g : Nat → Int32) (z : Int) (sz : Nat) (hF0 : f (2 : Int32).toNatClampNeg = 1) (hF1 : f (3 : Int32).toNatClampNeg = 224) (hF2 : g (7 : Int32).toNatClampNeg = 1) (hF3 : (g (6 : Int32).toNatClampNeg).toInt = z) (hH4 : 170 ≤ z) (hH5 : z ≤ 1024) (hH6 : z % 2 = 0) : Met l yX6_trap wsX6_trap ({ frames := 4, cells := 0, slots := 0, locals := 101 } : Room) (va_Pc [.ref h0, .int 4] (fun U => U.heap.size = sz ∧ va_P (dC, dI) vwCl [(h0, .inr (5, [.ref ar, .ref oB, .ref oS, .int 0, .int 0, .int 0, .int ve, .int 0, .int 0])), (oS, .inr (6, [.int 224, .int (-1)])), (oB, .inr (0, [.ref am, .ref oM, .ref oS, .ref oK, .ref oL, .ref oD])), (oM, .inr (3, [.ref ad, .ref ab, .int 0])), (am, .inl (tm, 512, .inl f)), (ar, .inl (tr, 8, .inl g))] U.heap ∧ va_K (dC, dI) vwCl [(tm, .int), (tr, .int)] U ∧ va_D (fun _ => True) [(h0, .inr (5, [.ref ar, .ref oB, .ref oS, .int 0, .int 0, .int 0, .int ve, .int 0, .int 0])), (oS, .inr (6, [.int 224, .int (-1)])), (oB, .inr (0, [.ref am, .ref oM, .ref oS, .ref oK, .ref oL, .ref oD])), (oM, .inr (3, [.ref ad, .ref ab, .int 0])), (am, .inl (tm, 512, .inl f)), (ar, .inl (tr, 8, .inl g))])) (va_Qv (fun (u : (Nat → Int32) × (Nat → Int32)) => (u.1 (2 : Int32).toNatClampNeg = 1) ∧ (u.1 (3 : Int32).toNatClampNeg = 224) ∧ (u.2 (7 : Int32).toNatClampNeg = 1) ∧ ((u.2 (6 : Int32).toNatClampNeg).toInt = z - 4)) (fun (u : (Nat → Int32) × (Nat → Int32)) (t : State) => va_P (dC, dI) vwCl [(h0, .inr (5, [.ref ar, .ref oB, .ref oS, .int 0, .int 0, .int 0, .int ve, .int 0, .int 0])), (oS, .inr (6, [.int 224, .int (-1)])), (oB, .inr (0, [.ref am, .ref oM, .ref oS, .ref oK, .ref oL, .ref oD])), (oM, .inr (3, [.ref ad, .ref ab, .int 0])), (am, .inl (tm, 512, .inl u.1)), (ar, .inl (tr, 8, .inl u.2))] t.heap ∧ va_K (dC, dI) vwCl [(tm, .int), (tr, .int)] t ∧ va_D (va_A [(h0, .inr (5, [.ref ar, .ref oB, .ref oS, .int 0, .int 0, .int 0, .int ve, .int 0, .int 0])), (oS, .inr (6, [.int 224, .int (-1)])), (oB, .inr (0, [.ref am, .ref oM, .ref oS, .ref oK, .ref oL, .ref oD])), (oM, .inr (3, [.ref ad, .ref ab, .int 0])), (am, .inl (tm, 512, .inl f)), (ar, .inl (tr, 8, .inl g))] sz) [(h0, .inr (5, [.ref ar, .ref oB, .ref oS, .int 0, .int 0, .int 0, .int ve, .int 0, .int 0])), (oS, .inr (6, [.int 224, .int (-1)])), (oB, .inr (0, [.ref am, .ref oM, .ref oS, .ref oK, .ref oL, .ref oD])), (oM, .inr (3, [.ref ad, .ref ab, .int 0])), (am, .inl (tm, 512, .inl u.1)), (ar, .inl (tr, 8, .inl u.2))]) (va_A [(h0, .inr (5, [.ref ar, .ref oB, .ref oS, .int 0, .int 0, .int 0, .int ve, .int 0, .int 0])), (oS, .inr (6, [.int 224, .int (-1)])), (oB, .inr (0, [.ref am, .ref oM, .ref oS, .ref oK, .ref oL, .ref oD])), (oM, .inr (3, [.ref ad, .ref ab, .int 0])), (am, .inl (tm, 512, .inl f)), (ar, .inl (tr, 8, .inl g))] sz)) 0 0 (va_A [(h0, .inr (5, [.ref ar, .ref oB, .ref oS, .int 0, .int 0, .int 0, .int ve, .int 0, .int 0])), (oS, .inr (6, [.int 224, .int (-1)])), (oB, .inr (0, [.ref am, .ref oM, .ref oS, .ref oK, .ref oL, .ref oD])), (oM, .inr (3, [.ref ad, .ref ab, .int 0])), (am, .inl (tm, 512, .inl f)), (ar, .inl (tr, 8, .inl g))] sz) := by
  refine Met.ofW (cc := cX6_trap) (maxL := 6) (ret := none) (by decide) rfl ?_
  intro p e s m args below meth c s₁ B hml hv
  obtain ⟨rfl, hsz, hP, hK, hD0⟩ := hv
  have hx := B.exec
  have hb := B.bytes
  have hr := B.returns
  have hts := atoms_spec (ws := wsX6_trap) B.pre
  have hown : s.vm.findClass RX6 = some m.cls := findClass_of_methodNamed B.named
  have hlocks := B.notSynchronized
  have hD := hD0.self (sz := sz)
  generalize hAe : va_A [(h0, .inr (5, [.ref ar, .ref oB, .ref oS, .int 0, .int 0, .int 0, .int ve, .int 0, .int 0])), (oS, .inr (6, [.int 224, .int (-1)])), (oB, .inr (0, [.ref am, .ref oM, .ref oS, .ref oK, .ref oL, .ref oD])), (oM, .inr (3, [.ref ad, .ref ab, .int 0])), (am, .inl (tm, 512, .inl f)), (ar, .inl (tr, 8, .inl g))] sz = A at hD ⊢
  have hA : ∀ q : Nat, s.heap.size ≤ q → A q := fun q h => by rw [← hAe]; exact Or.inr (by omega)
  have hS0 : ∀ G : Heap, s.heap = G → va_S A s.heap G [] := fun G h => by subst h; exact va_S.rf
  generalize hHe : s.heap = H at hP ⊢
  have hS := hS0 H hHe
  have hP : va_P (dC, dI) vwCl [(h0, .inr (5, [.ref ar, .ref oB, .ref oS, .int 0, .int 0, .int 0, .int ve, .int 0, .int 0])), (oS, .inr (6, [.int 224, .int (-1)])), (oB, .inr (0, [.ref am, .ref oM, .ref oS, .ref oK, .ref oL, .ref oD])), (oM, .inr (3, [.ref ad, .ref ab, .int 0])), (am, .inl (tm, 512, .inl f)), (ar, .inl (tr, 8, .inl g))] H := hP
  have hD : va_D A [(h0, .inr (5, [.ref ar, .ref oB, .ref oS, .int 0, .int 0, .int 0, .int ve, .int 0, .int 0])), (oS, .inr (6, [.int 224, .int (-1)])), (oB, .inr (0, [.ref am, .ref oM, .ref oS, .ref oK, .ref oL, .ref oD])), (oM, .inr (3, [.ref ad, .ref ab, .int 0])), (am, .inl (tm, 512, .inl f)), (ar, .inl (tr, 8, .inl g))] := hD
  have hK : va_K (dC, dI) vwCl [(tm, .int), (tr, .int)] s := hK
  have hl := lv_entry ([.ref h0, .int 4]) (n := 6) (Nat.le_of_ble_eq_true rfl)
  rw [lg_entry_eq]
  generalize (lg_sl ([.ref h0, .int 4]) ++ List.replicate (6 - (lg_sl ([.ref h0, .int 4])).length) Slot.unset).toArray = ls at hl ⊢
  have hl : lv_has ls 6 [(0, .ref h0), (1, .int 4)] := hl
  refine lv_aload_n hx hb dX6_trap_0 rfl (lv_at hl 0 rfl) ?_
  refine va_get (D := (dC, dI)) (ci := 5) (v := .ref oS) (C := RX6) (T := TX6) (N := 9) hx hb hts (by decide +kernel) hown hK hP 0 rfl rfl 2 (by decide) (hts (.fieldLink RX6 43 "UnibusMachine$Processor" "status" "LUnibusMachine$Status;") (by decide +kernel)) (fun _ h9 => h9) rfl dX6_trap_1 ?_
  refine va_get (D := (dC, dI)) (ci := 6) (v := .int 224) (C := RX7) (T := TX7) (N := 2) hx hb hts (by decide +kernel) hown hK hP 1 rfl rfl 0 (by decide) (hts (.fieldLink RX6 44 "UnibusMachine$Status" "now" "I") (by decide +kernel)) (fun _ h9 => h9) rfl dX6_trap_4 ?_
  refine lv_istore_n (lv' := [(2, .int 224), (0, .ref h0), (1, .int 4)]) hx hb dX6_trap_7 rfl hl (by decide) rfl (fun ls hl => ?_)
  refine lv_aload_n hx hb dX6_trap_8 rfl (lv_at hl 1 rfl) ?_
  refine va_get (D := (dC, dI)) (ci := 5) (v := .ref ar) (C := RX6) (T := TX6) (N := 9) hx hb hts (by decide +kernel) hown hK hP 0 rfl rfl 0 (by decide) (hts (.fieldLink RX6 7 "UnibusMachine$Processor" "registers" "[I") (by decide +kernel)) (fun _ h9 => h9) rfl dX6_trap_9 ?_
  refine lv_bipush (v := 7) hx hb dX6_trap_12 (by decide) ?_
  refine va_iald (D := (dC, dI)) hx hb hK hP 5 1 rfl rfl (vp_in_iff.mpr (by decide)) dX6_trap_14 ?_
  refine lv_topi (fun y1 ey1 => ?_)
  obtain rfl : y1 = 1 := by rw [ey1]; assumption
  refine lv_istore_n (lv' := [(3, .int 1), (2, .int 224), (0, .ref h0), (1, .int 4)]) hx hb dX6_trap_15 rfl hl (by decide) rfl (fun ls hl => ?_)
  refine lv_aload_n hx hb dX6_trap_16 rfl (lv_at hl 2 rfl) ?_
  refine lv_iconst (v := 0) hx hb dX6_trap_17 (by decide) ?_
  refine lv_iload_n hx hb dX6_trap_18 rfl (lv_at hl 3 rfl) ?_
  have hPc := hP.sub (ws' := [(h0, .inr (5, [.ref ar, .ref oB, .ref oS, .int 0, .int 0, .int 0, .int ve, .int 0, .int 0])), (oB, .inr (0, [.ref am, .ref oM, .ref oS, .ref oK, .ref oL, .ref oD])), (oM, .inr (3, [.ref ad, .ref ab, .int 0])), (am, .inl (tm, 512, .inl f))]) [0, 2, 3, 4] rfl
  have hDc := hD.sub (ws' := [(h0, .inr (5, [.ref ar, .ref oB, .ref oS, .int 0, .int 0, .int 0, .int ve, .int 0, .int 0])), (oB, .inr (0, [.ref am, .ref oM, .ref oS, .ref oK, .ref oL, .ref oD])), (oM, .inr (3, [.ref ad, .ref ab, .int 0])), (am, .inl (tm, 512, .inl f))]) [0, 2, 3, 4] (by decide) rfl
  have hKc := hK.sub (tys' := [(tm, .int)]) [0] rfl
  have hFc := va_free (wc := [(h0, .inr (5, [.ref ar, .ref oB, .ref oS, .int 0, .int 0, .int 0, .int ve, .int 0, .int 0])), (oB, .inr (0, [.ref am, .ref oM, .ref oS, .ref oK, .ref oL, .ref oD])), (oM, .inr (3, [.ref ad, .ref ab, .int 0])), (am, .inl (tm, 512, .inl f))]) hD hS hA [0, 2, 3, 4] rfl
  refine va_calli (va_runV (As := [.int 0, .int 4]) (rest := []) ⟨hx, hb, hml, hown, hts⟩ (c_readWord4 l dC dI h0 ar oB oS ve am oM oK oL oD ad ab tm f H.size (by first | assumption | omega | decide)) (cwV 2 hts gX6_trap_X6_readWord rfl rfl rfl (by decide +kernel) ⟨Nat.le_of_ble_eq_true rfl, Nat.le_of_ble_eq_true rfl⟩) ⟨fun a U g mk q => by obtain ⟨q0, q1, qP, qK, qD⟩ := q; exact ⟨q0, q1, qP, va_K.moved (u := U) (U := U.calling g mk a) (Vm.Alike.refl U.vm) qK, qD⟩, va_recv hKc hPc (ci := 5) (q0 := 0) rfl rfl, fun U hU hW => ⟨rfl, by rw [hU], by rw [hU]; exact hPc, va_K.moved hW.alike hKc, hDc.weaken (fun _ _ _ _ => trivial)⟩⟩ rfl rfl hl.1 rfl (lv_room (Nat.le_of_ble_eq_true rfl)) dX6_trap_19 ⟨Nat.le_of_ble_eq_true rfl, Nat.le_of_ble_eq_true rfl⟩) hS (fun q _ h => hFc q h) hFc (fun r2 u3 t H1 locs ht hvm hw hB hz1 hk1 hS => ?_)
  obtain ⟨hP1, hK1, hD1⟩ := hB
  rw [ht] at hP1
  have hK1 := va_K.moved hvm.symm hK1
  try dsimp only at hw
  obtain ⟨hP, hD⟩ := va_join (wr := [(oS, .inr (6, [.int 224, .int (-1)])), (ar, .inl (tr, 8, .inl g))]) (w1 := [(h0, .inr (5, [.ref ar, .ref oB, .ref oS, .int 0, .int 0, .int 0, .int ve, .int 0, .int 0])), (oB, .inr (0, [.ref am, .ref oM, .ref oS, .ref oK, .ref oL, .ref oD])), (oM, .inr (3, [.ref ad, .ref ab, .int 0])), (am, .inl (tm, 512, .inl f))]) hP hD [0, 2, 3, 4] [1, 5] rfl rfl (by decide) (by decide) hk1 hFc hP1 hD1
  have hK := (hK.sub (tys' := [(tr, .int)]) [1] rfl).app hK1
  generalize H1 = H at hP hS ⊢
  have hP : va_P (dC, dI) vwCl [(oS, .inr (6, [.int 224, .int (-1)])), (ar, .inl (tr, 8, .inl g)), (h0, .inr (5, [.ref ar, .ref oB, .ref oS, .int 0, .int 0, .int 0, .int ve, .int 0, .int 0])), (oB, .inr (0, [.ref am, .ref oM, .ref oS, .ref oK, .ref oL, .ref oD])), (oM, .inr (3, [.ref ad, .ref ab, .int 0])), (am, .inl (tm, 512, .inl f))] H := hP
  have hD : va_D A [(oS, .inr (6, [.int 224, .int (-1)])), (ar, .inl (tr, 8, .inl g)), (h0, .inr (5, [.ref ar, .ref oB, .ref oS, .int 0, .int 0, .int 0, .int ve, .int 0, .int 0])), (oB, .inr (0, [.ref am, .ref oM, .ref oS, .ref oK, .ref oL, .ref oD])), (oM, .inr (3, [.ref ad, .ref ab, .int 0])), (am, .inl (tm, 512, .inl f))] := hD
  have hK : va_K (dC, dI) vwCl [(tr, .int), (tm, .int)] s := hK
  refine W.widen (k := 0) (n := 0) (Nat.le_of_ble_eq_true rfl) (Nat.le_of_ble_eq_true rfl) ?_
  obtain rfl := hw
  refine lv_istore (lv' := [(4, .int 1), (3, .int 1), (2, .int 224), (0, .ref h0), (1, .int 4)]) hx hb dX6_trap_22 hl (by decide) rfl (fun ls hl => ?_)
  refine lv_aload_n hx hb dX6_trap_24 rfl (lv_at hl 3 rfl) ?_
  refine lv_iconst (v := 0) hx hb dX6_trap_25 (by decide) ?_
  refine lv_iload_n hx hb dX6_trap_26 rfl (lv_at hl 4 rfl) ?_
  refine lv_iconst (v := 2) hx hb dX6_trap_27 (by decide) ?_
  refine lv_iadd hx hb dX6_trap_28 ?_
  refine lv_topi (fun y4 ey4 => ?_)
  obtain rfl : y4 = 6 := by rw [ey4]; decide
  have hPc := hP.sub (ws' := [(h0, .inr (5, [.ref ar, .ref oB, .ref oS, .int 0, .int 0, .int 0, .int ve, .int 0, .int 0])), (oB, .inr (0, [.ref am, .ref oM, .ref oS, .ref oK, .ref oL, .ref oD])), (oM, .inr (3, [.ref ad, .ref ab, .int 0])), (am, .inl (tm, 512, .inl f))]) [2, 3, 4, 5] rfl
  have hDc := hD.sub (ws' := [(h0, .inr (5, [.ref ar, .ref oB, .ref oS, .int 0, .int 0, .int 0, .int ve, .int 0, .int 0])), (oB, .inr (0, [.ref am, .ref oM, .ref oS, .ref oK, .ref oL, .ref oD])), (oM, .inr (3, [.ref ad, .ref ab, .int 0])), (am, .inl (tm, 512, .inl f))]) [2, 3, 4, 5] (by decide) rfl
  have hKc := hK.sub (tys' := [(tm, .int)]) [1] rfl
  have hFc := va_free (wc := [(h0, .inr (5, [.ref ar, .ref oB, .ref oS, .int 0, .int 0, .int 0, .int ve, .int 0, .int 0])), (oB, .inr (0, [.ref am, .ref oM, .ref oS, .ref oK, .ref oL, .ref oD])), (oM, .inr (3, [.ref ad, .ref ab, .int 0])), (am, .inl (tm, 512, .inl f))]) hD hS hA [2, 3, 4, 5] rfl
  refine va_calli (va_runV (As := [.int 0, .int 6]) (rest := []) ⟨hx, hb, hml, hown, hts⟩ (c_readWord6 l dC dI h0 ar oB oS ve am oM oK oL oD ad ab tm f H.size (by first | assumption | omega | decide)) (cwV 2 hts gX6_trap_X6_readWord rfl rfl rfl (by decide +kernel) ⟨Nat.le_of_ble_eq_true rfl, Nat.le_of_ble_eq_true rfl⟩) ⟨fun a U g mk q => by obtain ⟨q0, q1, qP, qK, qD⟩ := q; exact ⟨q0, q1, qP, va_K.moved (u := U) (U := U.calling g mk a) (Vm.Alike.refl U.vm) qK, qD⟩, va_recv hKc hPc (ci := 5) (q0 := 0) rfl rfl, fun U hU hW => ⟨rfl, by rw [hU], by rw [hU]; exact hPc, va_K.moved hW.alike hKc, hDc.weaken (fun _ _ _ _ => trivial)⟩⟩ rfl rfl hl.1 rfl (lv_room (Nat.le_of_ble_eq_true rfl)) dX6_trap_29 ⟨Nat.le_of_ble_eq_true rfl, Nat.le_of_ble_eq_true rfl⟩) hS (fun q _ h => hFc q h) hFc (fun r5 u6 t H1 locs ht hvm hw hB hz1 hk1 hS => ?_)
  obtain ⟨hP1, hK1, hD1⟩ := hB
  rw [ht] at hP1
  have hK1 := va_K.moved hvm.symm hK1
  try dsimp only at hw
  obtain ⟨hP, hD⟩ := va_join (wr := [(oS, .inr (6, [.int 224, .int (-1)])), (ar, .inl (tr, 8, .inl g))]) (w1 := [(h0, .inr (5, [.ref ar, .ref oB, .ref oS, .int 0, .int 0, .int 0, .int ve, .int 0, .int 0])), (oB, .inr (0, [.ref am, .ref oM, .ref oS, .ref oK, .ref oL, .ref oD])), (oM, .inr (3, [.ref ad, .ref ab, .int 0])), (am, .inl (tm, 512, .inl f))]) hP hD [2, 3, 4, 5] [0, 1] rfl rfl (by decide) (by decide) hk1 hFc hP1 hD1
  have hK := (hK.sub (tys' := [(tr, .int)]) [0] rfl).app hK1
  generalize H1 = H at hP hS ⊢
  have hP : va_P (dC, dI) vwCl [(oS, .inr (6, [.int 224, .int (-1)])), (ar, .inl (tr, 8, .inl g)), (h0, .inr (5, [.ref ar, .ref oB, .ref oS, .int 0, .int 0, .int 0, .int ve, .int 0, .int 0])), (oB, .inr (0, [.ref am, .ref oM, .ref oS, .ref oK, .ref oL, .ref oD])), (oM, .inr (3, [.ref ad, .ref ab, .int 0])), (am, .inl (tm, 512, .inl f))] H := hP
  have hD : va_D A [(oS, .inr (6, [.int 224, .int (-1)])), (ar, .inl (tr, 8, .inl g)), (h0, .inr (5, [.ref ar, .ref oB, .ref oS, .int 0, .int 0, .int 0, .int ve, .int 0, .int 0])), (oB, .inr (0, [.ref am, .ref oM, .ref oS, .ref oK, .ref oL, .ref oD])), (oM, .inr (3, [.ref ad, .ref ab, .int 0])), (am, .inl (tm, 512, .inl f))] := hD
  have hK : va_K (dC, dI) vwCl [(tr, .int), (tm, .int)] s := hK
  refine W.widen (k := 0) (n := 0) (Nat.le_of_ble_eq_true rfl) (Nat.le_of_ble_eq_true rfl) ?_
  obtain rfl := hw
  refine lv_istore (lv' := [(5, .int 224), (4, .int 1), (3, .int 1), (2, .int 224), (0, .ref h0), (1, .int 4)]) hx hb dX6_trap_32 hl (by decide) rfl (fun ls hl => ?_)
  refine lv_aload_n hx hb dX6_trap_34 rfl (lv_at hl 4 rfl) ?_
  refine lv_iload hx hb dX6_trap_35 (lv_at hl 0 rfl) ?_
  refine lv_sipush (v := 20719) hx hb dX6_trap_37 (by decide) ?_
  refine lv_iand hx hb dX6_trap_40 ?_
  refine lv_topi (fun y7 ey7 => ?_)
  obtain rfl : y7 = 224 := by rw [ey7]; decide
  refine lv_sipush (v := (-4097)) hx hb dX6_trap_41 (by decide) ?_
  refine lv_iand hx hb dX6_trap_44 ?_
  refine lv_topi (fun y8 ey8 => ?_)
  obtain rfl : y8 = 224 := by rw [ey8]; decide
  refine lv_aload_n hx hb dX6_trap_45 rfl (lv_at hl 4 rfl) ?_
  have hPc := hP.sub (ws' := [(h0, .inr (5, [.ref ar, .ref oB, .ref oS, .int 0, .int 0, .int 0, .int ve, .int 0, .int 0])), (oS, .inr (6, [.int 224, .int (-1)]))]) [2, 0] rfl
  have hDc := hD.sub (ws' := [(h0, .inr (5, [.ref ar, .ref oB, .ref oS, .int 0, .int 0, .int 0, .int ve, .int 0, .int 0])), (oS, .inr (6, [.int 224, .int (-1)]))]) [2, 0] (by decide) rfl
  have hKc := hK.sub (tys' := []) [] rfl
  have hFc := va_free (wc := [(h0, .inr (5, [.ref ar, .ref oB, .ref oS, .int 0, .int 0, .int 0, .int ve, .int 0, .int 0])), (oS, .inr (6, [.int 224, .int (-1)]))]) hD hS hA [2, 0] rfl
  refine va_calli (va_runV (As := []) (rest := [.int 224, .ref h0]) ⟨hx, hb, hml, hown, hts⟩ (c_mode l dC dI h0 ar oB oS ve H.size) (cwV 0 hts gX6_trap_X6_mode rfl rfl rfl (by decide +kernel) ⟨Nat.le_of_ble_eq_true rfl, Nat.le_of_ble_eq_true rfl⟩) ⟨fun a U g mk q => by obtain ⟨q0, q1, qP, qK, qD⟩ := q; exact ⟨q0, q1, qP, va_K.moved (u := U) (U := U.calling g mk a) (Vm.Alike.refl U.vm) qK, qD⟩, va_recv hKc hPc (ci := 5) (q0 := 0) rfl rfl, fun U hU hW => ⟨rfl, by rw [hU], by rw [hU]; exact hPc, va_K.moved hW.alike hKc, hDc.weaken (fun _ _ _ _ => trivial)⟩⟩ rfl rfl hl.1 rfl (lv_room (Nat.le_of_ble_eq_true rfl)) dX6_trap_46 ⟨Nat.le_of_ble_eq_true rfl, Nat.le_of_ble_eq_true rfl⟩) hS (fun q _ h => hFc q h) hFc (fun r9 u10 t H1 locs ht hvm hw hB hz1 hk1 hS => ?_)
  obtain ⟨hP1, hK1, hD1⟩ := hB
  rw [ht] at hP1
  have hK1 := va_K.moved hvm.symm hK1
  try dsimp only at hw
  obtain ⟨hP, hD⟩ := va_join (wr := [(ar, .inl (tr, 8, .inl g)), (oB, .inr (0, [.ref am, .ref oM, .ref oS, .ref oK, .ref oL, .ref oD])), (oM, .inr (3, [.ref ad, .ref ab, .int 0])), (am, .inl (tm, 512, .inl f))]) (w1 := [(h0, .inr (5, [.ref ar, .ref oB, .ref oS, .int 0, .int 0, .int 0, .int ve, .int 0, .int 0])), (oS, .inr (6, [.int 224, .int (-1)]))]) hP hD [2, 0] [1, 3, 4, 5] rfl rfl (by decide) (by decide) hk1 hFc hP1 hD1
  have hK := (hK.sub (tys' := [(tr, .int), (tm, .int)]) [0, 1] rfl).app hK1
  generalize H1 = H at hP hS ⊢
  have hP : va_P (dC, dI) vwCl [(ar, .inl (tr, 8, .inl g)), (oB, .inr (0, [.ref am, .ref oM, .ref oS, .ref oK, .ref oL, .ref oD])), (oM, .inr (3, [.ref ad, .ref ab, .int 0])), (am, .inl (tm, 512, .inl f)), (h0, .inr (5, [.ref ar, .ref oB, .ref oS, .int 0, .int 0, .int 0, .int ve, .int 0, .int 0])), (oS, .inr (6, [.int 224, .int (-1)]))] H := hP
  have hD : va_D A [(ar, .inl (tr, 8, .inl g)), (oB, .inr (0, [.ref am, .ref oM, .ref oS, .ref oK, .ref oL, .ref oD])), (oM, .inr (3, [.ref ad, .ref ab, .int 0])), (am, .inl (tm, 512, .inl f)), (h0, .inr (5, [.ref ar, .ref oB, .ref oS, .int 0, .int 0, .int 0, .int ve, .int 0, .int 0])), (oS, .inr (6, [.int 224, .int (-1)]))] := hD
  have hK : va_K (dC, dI) vwCl [(tr, .int), (tm, .int)] s := hK
  refine W.widen (k := 0) (n := 0) (Nat.le_of_ble_eq_true rfl) (Nat.le_of_ble_eq_true rfl) ?_
  obtain rfl := hw
  refine lv_bipush (v := 12) hx hb dX6_trap_49 (by decide) ?_
  refine lv_ishl hx hb dX6_trap_51 ?_
  refine lv_topi (fun y11 ey11 => ?_)
  obtain rfl : y11 = 0 := by rw [ey11]; decide
  refine lv_ior hx hb dX6_trap_52 ?_
  refine lv_topi (fun y12 ey12 => ?_)
  obtain rfl : y12 = 224 := by rw [ey12]; decide
  have hPc := hP.sub (ws' := [(h0, .inr (5, [.ref ar, .ref oB, .ref oS, .int 0, .int 0, .int 0, .int ve, .int 0, .int 0])), (oS, .inr (6, [.int 224, .int (-1)]))]) [4, 5] rfl
  have hDc := hD.sub (ws' := [(h0, .inr (5, [.ref ar, .ref oB, .ref oS, .int 0, .int 0, .int 0, .int ve, .int 0, .int 0])), (oS, .inr (6, [.int 224, .int (-1)]))]) [4, 5] (by decide) rfl
  have hKc := hK.sub (tys' := []) [] rfl
  have hFc := va_free (wc := [(h0, .inr (5, [.ref ar, .ref oB, .ref oS, .int 0, .int 0, .int 0, .int ve, .int 0, .int 0])), (oS, .inr (6, [.int 224, .int (-1)]))]) hD hS hA [4, 5] rfl
  refine va_callv (va_runV (As := [.int 224]) (rest := []) ⟨hx, hb, hml, hown, hts⟩ (c_takeStatus l dC dI h0 ar oB oS ve H.size) (cwV 1 hts gX6_trap_X6_takeStatus rfl rfl rfl (by decide +kernel) ⟨Nat.le_of_ble_eq_true rfl, Nat.le_of_ble_eq_true rfl⟩) ⟨fun a U g mk q => by obtain ⟨q0, q1, qP, qK, qD⟩ := q; exact ⟨q0, q1, qP, va_K.moved (u := U) (U := U.calling g mk a) (Vm.Alike.refl U.vm) qK, qD⟩, va_recv hKc hPc (ci := 5) (q0 := 0) rfl rfl, fun U hU hW => ⟨rfl, by rw [hU], by rw [hU]; exact hPc, va_K.moved hW.alike hKc, hDc.weaken (fun _ _ _ _ => trivial)⟩⟩ rfl rfl hl.1 rfl (lv_room (Nat.le_of_ble_eq_true rfl)) dX6_trap_53 ⟨Nat.le_of_ble_eq_true rfl, Nat.le_of_ble_eq_true rfl⟩) hS (fun q _ h => hFc q h) hFc (fun u14 t H1 locs ht hvm hw hB hz1 hk1 hS => ?_)
  obtain ⟨hP1, hK1, hD1⟩ := hB
  rw [ht] at hP1
  have hK1 := va_K.moved hvm.symm hK1
  try dsimp only at hw
  obtain ⟨hP, hD⟩ := va_join (wr := [(ar, .inl (tr, 8, .inl g)), (oB, .inr (0, [.ref am, .ref oM, .ref oS, .ref oK, .ref oL, .ref oD])), (oM, .inr (3, [.ref ad, .ref ab, .int 0])), (am, .inl (tm, 512, .inl f))]) (w1 := [(h0, .inr (5, [.ref ar, .ref oB, .ref oS, .int 0, .int 0, .int 0, .int ve, .int 0, .int 0])), (oS, .inr (6, [.int 224, .int (-1)]))]) hP hD [4, 5] [0, 1, 2, 3] rfl rfl (by decide) (by decide) hk1 hFc hP1 hD1
  have hK := (hK.sub (tys' := [(tr, .int), (tm, .int)]) [0, 1] rfl).app hK1
  generalize H1 = H at hP hS ⊢
  have hP : va_P (dC, dI) vwCl [(ar, .inl (tr, 8, .inl g)), (oB, .inr (0, [.ref am, .ref oM, .ref oS, .ref oK, .ref oL, .ref oD])), (oM, .inr (3, [.ref ad, .ref ab, .int 0])), (am, .inl (tm, 512, .inl f)), (h0, .inr (5, [.ref ar, .ref oB, .ref oS, .int 0, .int 0, .int 0, .int ve, .int 0, .int 0])), (oS, .inr (6, [.int 224, .int (-1)]))] H := hP
  have hD : va_D A [(ar, .inl (tr, 8, .inl g)), (oB, .inr (0, [.ref am, .ref oM, .ref oS, .ref oK, .ref oL, .ref oD])), (oM, .inr (3, [.ref ad, .ref ab, .int 0])), (am, .inl (tm, 512, .inl f)), (h0, .inr (5, [.ref ar, .ref oB, .ref oS, .int 0, .int 0, .int 0, .int ve, .int 0, .int 0])), (oS, .inr (6, [.int 224, .int (-1)]))] := hD
  have hK : va_K (dC, dI) vwCl [(tr, .int), (tm, .int)] s := hK
  refine W.widen (k := 0) (n := 0) (Nat.le_of_ble_eq_true rfl) (Nat.le_of_ble_eq_true rfl) ?_
  refine lv_aload_n hx hb dX6_trap_56 rfl (lv_at hl 4 rfl) ?_
  refine lv_iload_n hx hb dX6_trap_57 rfl (lv_at hl 3 rfl) ?_
  have hPc := hP.sub (ws' := [(h0, .inr (5, [.ref ar, .ref oB, .ref oS, .int 0, .int 0, .int 0, .int ve, .int 0, .int 0])), (oS, .inr (6, [.int 224, .int (-1)])), (oB, .inr (0, [.ref am, .ref oM, .ref oS, .ref oK, .ref oL, .ref oD])), (oM, .inr (3, [.ref ad, .ref ab, .int 0])), (am, .inl (tm, 512, .inl f)), (ar, .inl (tr, 8, .inl g))]) [4, 5, 1, 2, 3, 0] rfl
  have hDc := hD.sub (ws' := [(h0, .inr (5, [.ref ar, .ref oB, .ref oS, .int 0, .int 0, .int 0, .int ve, .int 0, .int 0])), (oS, .inr (6, [.int 224, .int (-1)])), (oB, .inr (0, [.ref am, .ref oM, .ref oS, .ref oK, .ref oL, .ref oD])), (oM, .inr (3, [.ref ad, .ref ab, .int 0])), (am, .inl (tm, 512, .inl f)), (ar, .inl (tr, 8, .inl g))]) [4, 5, 1, 2, 3, 0] (by decide) rfl
  have hKc := hK.sub (tys' := [(tm, .int), (tr, .int)]) [1, 0] rfl
  have hFc := va_free (wc := [(h0, .inr (5, [.ref ar, .ref oB, .ref oS, .int 0, .int 0, .int 0, .int ve, .int 0, .int 0])), (oS, .inr (6, [.int 224, .int (-1)])), (oB, .inr (0, [.ref am, .ref oM, .ref oS, .ref oK, .ref oL, .ref oD])), (oM, .inr (3, [.ref ad, .ref ab, .int 0])), (am, .inl (tm, 512, .inl f)), (ar, .inl (tr, 8, .inl g))]) hD hS hA [4, 5, 1, 2, 3, 0] rfl
  refine va_callv (va_runV (As := [.int 224]) (rest := []) ⟨hx, hb, hml, hown, hts⟩ (c_push l dC dI h0 ar oB oS ve am oM oK oL oD ad ab tm f tr g z 224 H.size (by first | assumption | omega | decide) (by first | assumption | omega | decide) (by first | assumption | omega | decide) (by first | assumption | omega | decide) (by first | assumption | omega | decide) (by first | assumption | omega | decide) (by first | assumption | omega | decide)) (cwV 1 hts gX6_trap_X6_push rfl rfl rfl (by decide +kernel) ⟨Nat.le_of_ble_eq_true rfl, Nat.le_of_ble_eq_true rfl⟩) ⟨fun a U g mk q => by obtain ⟨q0, q1, qP, qK, qD⟩ := q; exact ⟨q0, q1, qP, va_K.moved (u := U) (U := U.calling g mk a) (Vm.Alike.refl U.vm) qK, qD⟩, va_recv hKc hPc (ci := 5) (q0 := 0) rfl rfl, fun U hU hW => ⟨rfl, by rw [hU], by rw [hU]; exact hPc, va_K.moved hW.alike hKc, hDc.weaken (fun _ _ _ _ => trivial)⟩⟩ rfl rfl hl.1 rfl (lv_room (Nat.le_of_ble_eq_true rfl)) dX6_trap_58 ⟨Nat.le_of_ble_eq_true rfl, Nat.le_of_ble_eq_true rfl⟩) hS (fun q _ h => hFc q h) hFc (fun u16 t H1 locs ht hvm hw hB hz1 hk1 hS => ?_)
  obtain ⟨hP1, hK1, hD1⟩ := hB
  rw [ht] at hP1
  have hK1 := va_K.moved hvm.symm hK1
  try dsimp only at hw
  obtain ⟨hP, hD⟩ := va_join (wr := []) (w1 := [(h0, .inr (5, [.ref ar, .ref oB, .ref oS, .int 0, .int 0, .int 0, .int ve, .int 0, .int 0])), (oS, .inr (6, [.int 224, .int (-1)])), (oB, .inr (0, [.ref am, .ref oM, .ref oS, .ref oK, .ref oL, .ref oD])), (oM, .inr (3, [.ref ad, .ref ab, .int 0])), (am, .inl (tm, 512, .inl u16.1)), (ar, .inl (tr, 8, .inl u16.2))]) hP hD [4, 5, 1, 2, 3, 0] [] rfl rfl (by decide) (by decide) hk1 hFc hP1 hD1
  have hK := (hK.sub (tys' := []) [] rfl).app hK1
  generalize H1 = H at hP hS ⊢
  have hP : va_P (dC, dI) vwCl [(h0, .inr (5, [.ref ar, .ref oB, .ref oS, .int 0, .int 0, .int 0, .int ve, .int 0, .int 0])), (oS, .inr (6, [.int 224, .int (-1)])), (oB, .inr (0, [.ref am, .ref oM, .ref oS, .ref oK, .ref oL, .ref oD])), (oM, .inr (3, [.ref ad, .ref ab, .int 0])), (am, .inl (tm, 512, .inl u16.1)), (ar, .inl (tr, 8, .inl u16.2))] H := hP
  have hD : va_D A [(h0, .inr (5, [.ref ar, .ref oB, .ref oS, .int 0, .int 0, .int 0, .int ve, .int 0, .int 0])), (oS, .inr (6, [.int 224, .int (-1)])), (oB, .inr (0, [.ref am, .ref oM, .ref oS, .ref oK, .ref oL, .ref oD])), (oM, .inr (3, [.ref ad, .ref ab, .int 0])), (am, .inl (tm, 512, .inl u16.1)), (ar, .inl (tr, 8, .inl u16.2))] := hD
  have hK : va_K (dC, dI) vwCl [(tm, .int), (tr, .int)] s := hK
  refine W.widen (k := 0) (n := 0) (Nat.le_of_ble_eq_true rfl) (Nat.le_of_ble_eq_true rfl) ?_
  obtain ⟨_, _, _, _⟩ := hw
  refine lv_aload_n hx hb dX6_trap_61 rfl (lv_at hl 4 rfl) ?_
  refine lv_iload_n hx hb dX6_trap_62 rfl (lv_at hl 2 rfl) ?_
  have hPc := hP.sub (ws' := [(h0, .inr (5, [.ref ar, .ref oB, .ref oS, .int 0, .int 0, .int 0, .int ve, .int 0, .int 0])), (oS, .inr (6, [.int 224, .int (-1)])), (oB, .inr (0, [.ref am, .ref oM, .ref oS, .ref oK, .ref oL, .ref oD])), (oM, .inr (3, [.ref ad, .ref ab, .int 0])), (am, .inl (tm, 512, .inl u16.1)), (ar, .inl (tr, 8, .inl u16.2))]) [0, 1, 2, 3, 4, 5] rfl
  have hDc := hD.sub (ws' := [(h0, .inr (5, [.ref ar, .ref oB, .ref oS, .int 0, .int 0, .int 0, .int ve, .int 0, .int 0])), (oS, .inr (6, [.int 224, .int (-1)])), (oB, .inr (0, [.ref am, .ref oM, .ref oS, .ref oK, .ref oL, .ref oD])), (oM, .inr (3, [.ref ad, .ref ab, .int 0])), (am, .inl (tm, 512, .inl u16.1)), (ar, .inl (tr, 8, .inl u16.2))]) [0, 1, 2, 3, 4, 5] (by decide) rfl
  have hKc := hK.sub (tys' := [(tm, .int), (tr, .int)]) [0, 1] rfl
  have hFc := va_free (wc := [(h0, .inr (5, [.ref ar, .ref oB, .ref oS, .int 0, .int 0, .int 0, .int ve, .int 0, .int 0])), (oS, .inr (6, [.int 224, .int (-1)])), (oB, .inr (0, [.ref am, .ref oM, .ref oS, .ref oK, .ref oL, .ref oD])), (oM, .inr (3, [.ref ad, .ref ab, .int 0])), (am, .inl (tm, 512, .inl u16.1)), (ar, .inl (tr, 8, .inl u16.2))]) hD hS hA [0, 1, 2, 3, 4, 5] rfl
  refine va_callv (va_runV (As := [.int 1]) (rest := []) ⟨hx, hb, hml, hown, hts⟩ (c_push l dC dI h0 ar oB oS ve am oM oK oL oD ad ab tm u16.1 tr u16.2 (z - 2) 1 H.size (by first | assumption | omega | decide) (by first | assumption | omega | decide) (by first | assumption | omega | decide) (by first | assumption | omega | decide) (by first | assumption | omega | decide) (by first | assumption | omega | decide) (by first | assumption | omega | decide)) (cwV 1 hts gX6_trap_X6_push rfl rfl rfl (by decide +kernel) ⟨Nat.le_of_ble_eq_true rfl, Nat.le_of_ble_eq_true rfl⟩) ⟨fun a U g mk q => by obtain ⟨q0, q1, qP, qK, qD⟩ := q; exact ⟨q0, q1, qP, va_K.moved (u := U) (U := U.calling g mk a) (Vm.Alike.refl U.vm) qK, qD⟩, va_recv hKc hPc (ci := 5) (q0 := 0) rfl rfl, fun U hU hW => ⟨rfl, by rw [hU], by rw [hU]; exact hPc, va_K.moved hW.alike hKc, hDc.weaken (fun _ _ _ _ => trivial)⟩⟩ rfl rfl hl.1 rfl (lv_room (Nat.le_of_ble_eq_true rfl)) dX6_trap_63 ⟨Nat.le_of_ble_eq_true rfl, Nat.le_of_ble_eq_true rfl⟩) hS (fun q _ h => hFc q h) hFc (fun u18 t H1 locs ht hvm hw hB hz1 hk1 hS => ?_)
  obtain ⟨hP1, hK1, hD1⟩ := hB
  rw [ht] at hP1
  have hK1 := va_K.moved hvm.symm hK1
  try dsimp only at hw
  obtain ⟨hP, hD⟩ := va_join (wr := []) (w1 := [(h0, .inr (5, [.ref ar, .ref oB, .ref oS, .int 0, .int 0, .int 0, .int ve, .int 0, .int 0])), (oS, .inr (6, [.int 224, .int (-1)])), (oB, .inr (0, [.ref am, .ref oM, .ref oS, .ref oK, .ref oL, .ref oD])), (oM, .inr (3, [.ref ad, .ref ab, .int 0])), (am, .inl (tm, 512, .inl u18.1)), (ar, .inl (tr, 8, .inl u18.2))]) hP hD [0, 1, 2, 3, 4, 5] [] rfl rfl (by decide) (by decide) hk1 hFc hP1 hD1
  have hK := (hK.sub (tys' := []) [] rfl).app hK1
  generalize H1 = H at hP hS ⊢
  have hP : va_P (dC, dI) vwCl [(h0, .inr (5, [.ref ar, .ref oB, .ref oS, .int 0, .int 0, .int 0, .int ve, .int 0, .int 0])), (oS, .inr (6, [.int 224, .int (-1)])), (oB, .inr (0, [.ref am, .ref oM, .ref oS, .ref oK, .ref oL, .ref oD])), (oM, .inr (3, [.ref ad, .ref ab, .int 0])), (am, .inl (tm, 512, .inl u18.1)), (ar, .inl (tr, 8, .inl u18.2))] H := hP
  have hD : va_D A [(h0, .inr (5, [.ref ar, .ref oB, .ref oS, .int 0, .int 0, .int 0, .int ve, .int 0, .int 0])), (oS, .inr (6, [.int 224, .int (-1)])), (oB, .inr (0, [.ref am, .ref oM, .ref oS, .ref oK, .ref oL, .ref oD])), (oM, .inr (3, [.ref ad, .ref ab, .int 0])), (am, .inl (tm, 512, .inl u18.1)), (ar, .inl (tr, 8, .inl u18.2))] := hD
  have hK : va_K (dC, dI) vwCl [(tm, .int), (tr, .int)] s := hK
  refine W.widen (k := 0) (n := 0) (Nat.le_of_ble_eq_true rfl) (Nat.le_of_ble_eq_true rfl) ?_
  obtain ⟨_, _, _, _⟩ := hw
  refine lv_aload_n hx hb dX6_trap_66 rfl (lv_at hl 4 rfl) ?_
  refine va_get (D := (dC, dI)) (ci := 5) (v := .ref ar) (C := RX6) (T := TX6) (N := 9) hx hb hts (by decide +kernel) hown hK hP 0 rfl rfl 0 (by decide) (hts (.fieldLink RX6 7 "UnibusMachine$Processor" "registers" "[I") (by decide +kernel)) (fun _ h9 => h9) rfl dX6_trap_67 ?_
  refine lv_bipush (v := 7) hx hb dX6_trap_70 (by decide) ?_
  refine lv_iload hx hb dX6_trap_72 (lv_at hl 1 rfl) ?_
  refine va_iast (D := (dC, dI)) hx hb hK hP hD hS 5 1 rfl rfl (vp_in_iff.mpr (by decide)) dX6_trap_74 (fun H locs hP hD hS => ?_)
  have hP : va_P (dC, dI) vwCl [(h0, .inr (5, [.ref ar, .ref oB, .ref oS, .int 0, .int 0, .int 0, .int ve, .int 0, .int 0])), (oS, .inr (6, [.int 224, .int (-1)])), (oB, .inr (0, [.ref am, .ref oM, .ref oS, .ref oK, .ref oL, .ref oD])), (oM, .inr (3, [.ref ad, .ref ab, .int 0])), (am, .inl (tm, 512, .inl u18.1)), (ar, .inl (tr, 8, .inl (upd u18.2 (7 : Int32).toNatClampNeg 1)))] H := hP
  have hD : va_D A [(h0, .inr (5, [.ref ar, .ref oB, .ref oS, .int 0, .int 0, .int 0, .int ve, .int 0, .int 0])), (oS, .inr (6, [.int 224, .int (-1)])), (oB, .inr (0, [.ref am, .ref oM, .ref oS, .ref oK, .ref oL, .ref oD])), (oM, .inr (3, [.ref ad, .ref ab, .int 0])), (am, .inl (tm, 512, .inl u18.1)), (ar, .inl (tr, 8, .inl (upd u18.2 (7 : Int32).toNatClampNeg 1)))] := hD
  obtain ⟨f19, hf19⟩ : ∃ z : Nat → Int32, z = upd u18.2 (7 : Int32).toNatClampNeg 1 := ⟨_, rfl⟩
  rw [← hf19] at hP hD
  have hf19_6 : (f19 (6 : Int32).toNatClampNeg).toInt = (z - 2) - 2 := by rw [hf19, pk_un (by decide)]; assumption
  have hf19_7 : f19 (7 : Int32).toNatClampNeg = 1 := by rw [hf19, pk_us]
  have hP : va_P (dC, dI) vwCl [(h0, .inr (5, [.ref ar, .ref oB, .ref oS, .int 0, .int 0, .int 0, .int ve, .int 0, .int 0])), (oS, .inr (6, [.int 224, .int (-1)])), (oB, .inr (0, [.ref am, .ref oM, .ref oS, .ref oK, .ref oL, .ref oD])), (oM, .inr (3, [.ref ad, .ref ab, .int 0])), (am, .inl (tm, 512, .inl u18.1)), (ar, .inl (tr, 8, .inl f19))] H := hP
  have hD : va_D A [(h0, .inr (5, [.ref ar, .ref oB, .ref oS, .int 0, .int 0, .int 0, .int ve, .int 0, .int 0])), (oS, .inr (6, [.int 224, .int (-1)])), (oB, .inr (0, [.ref am, .ref oM, .ref oS, .ref oK, .ref oL, .ref oD])), (oM, .inr (3, [.ref ad, .ref ab, .int 0])), (am, .inl (tm, 512, .inl u18.1)), (ar, .inl (tr, 8, .inl f19))] := hD
  have hx20 : u18.1 (2 : Int32).toNatClampNeg = 1 := by first | assumption | omega
  have hx21 : u18.1 (3 : Int32).toNatClampNeg = 224 := by first | assumption | omega
  have hx22 : f19 (7 : Int32).toNatClampNeg = 1 := by first | assumption | omega
  have hx23 : (f19 (6 : Int32).toNatClampNeg).toInt = z - 4 := by first | assumption | omega
  have hP9 := hP.sub (ws' := [(h0, .inr (5, [.ref ar, .ref oB, .ref oS, .int 0, .int 0, .int 0, .int ve, .int 0, .int 0])), (oS, .inr (6, [.int 224, .int (-1)])), (oB, .inr (0, [.ref am, .ref oM, .ref oS, .ref oK, .ref oL, .ref oD])), (oM, .inr (3, [.ref ad, .ref ab, .int 0])), (am, .inl (tm, 512, .inl u18.1)), (ar, .inl (tr, 8, .inl f19))]) [0, 1, 2, 3, 4, 5] rfl
  have hD9 := hD.sub (ws' := [(h0, .inr (5, [.ref ar, .ref oB, .ref oS, .int 0, .int 0, .int 0, .int ve, .int 0, .int 0])), (oS, .inr (6, [.int 224, .int (-1)])), (oB, .inr (0, [.ref am, .ref oM, .ref oS, .ref oK, .ref oL, .ref oD])), (oM, .inr (3, [.ref ad, .ref ab, .int 0])), (am, .inl (tm, 512, .inl u18.1)), (ar, .inl (tr, 8, .inl f19))]) [0, 1, 2, 3, 4, 5] (by decide) rfl
  have hK9 := hK.sub (tys' := [(tm, .int), (tr, .int)]) [0, 1] rfl
  exact W.vret hx hb hr (fun t ht hW => ⟨⟨(u18.1, f19), rfl, ⟨hx20, hx21, hx22, hx23⟩, by rw [ht]; exact hP9, va_K.moved hW.alike hK9, hD9⟩, hS.F ht⟩) hS.2.2 dX6_trap_75
set_option maxHeartbeats 4000000 in
set_option maxRecDepth 100000 in
theorem c_settle (l : Launch) (dC : Nat → ClassId) (dI : Nat → Nat → Nat) (h0 : Nat) (ar : Nat) (oB : Nat) (oS : Nat) (ve : Int32) (sz : Nat) : Met l yX6_settle wsX6_settle ({ frames := 1, cells := 0, slots := 0, locals := 22 } : Room) (va_Pc [.ref h0] (fun U => U.heap.size = sz ∧ va_P (dC, dI) vwCl [(h0, .inr (5, [.ref ar, .ref oB, .ref oS, .int 0, .int 0, .int 0, .int ve, .int 0, .int 0])), (oS, .inr (6, [.int 224, .int (-1)]))] U.heap ∧ va_K (dC, dI) vwCl [] U ∧ va_D (fun _ => True) [(h0, .inr (5, [.ref ar, .ref oB, .ref oS, .int 0, .int 0, .int 0, .int ve, .int 0, .int 0])), (oS, .inr (6, [.int 224, .int (-1)]))])) (va_Qv (fun (u : Unit) => True) (fun (u : Unit) (t : State) => va_P (dC, dI) vwCl [(h0, .inr (5, [.ref ar, .ref oB, .ref oS, .int 0, .int 0, .int 0, .int ve, .int 0, .int 0])), (oS, .inr (6, [.int 224, .int (-1)]))] t.heap ∧ va_K (dC, dI) vwCl [] t ∧ va_D (va_A [(h0, .inr (5, [.ref ar, .ref oB, .ref oS, .int 0, .int 0, .int 0, .int ve, .int 0, .int 0])), (oS, .inr (6, [.int 224, .int (-1)]))] sz) [(h0, .inr (5, [.ref ar, .ref oB, .ref oS, .int 0, .int 0, .int 0, .int ve, .int 0, .int 0])), (oS, .inr (6, [.int 224, .int (-1)]))]) (va_A [(h0, .inr (5, [.ref ar, .ref oB, .ref oS, .int 0, .int 0, .int 0, .int ve, .int 0, .int 0])), (oS, .inr (6, [.int 224, .int (-1)]))] sz)) 0 0 (va_A [(h0, .inr (5, [.ref ar, .ref oB, .ref oS, .int 0, .int 0, .int 0, .int ve, .int 0, .int 0])), (oS, .inr (6, [.int 224, .int (-1)]))] sz) := by
  refine Met.ofW (cc := cX6_settle) (maxL := 2) (ret := none) (by decide) rfl ?_
  intro p e s m args below meth c s₁ B hml hv
  obtain ⟨rfl, hsz, hP, hK, hD0⟩ := hv
  have hx := B.exec
  have hb := B.bytes
  have hr := B.returns
  have hts := atoms_spec (ws := wsX6_settle) B.pre
  have hown : s.vm.findClass RX6 = some m.cls := findClass_of_methodNamed B.named
  have hlocks := B.notSynchronized
  have hD := hD0.self (sz := sz)
  generalize hAe : va_A [(h0, .inr (5, [.ref ar, .ref oB, .ref oS, .int 0, .int 0, .int 0, .int ve, .int 0, .int 0])), (oS, .inr (6, [.int 224, .int (-1)]))] sz = A at hD ⊢
  have hA : ∀ q : Nat, s.heap.size ≤ q → A q := fun q h => by rw [← hAe]; exact Or.inr (by omega)
  have hS0 : ∀ G : Heap, s.heap = G → va_S A s.heap G [] := fun G h => by subst h; exact va_S.rf
  generalize hHe : s.heap = H at hP ⊢
  have hS := hS0 H hHe
  have hP : va_P (dC, dI) vwCl [(h0, .inr (5, [.ref ar, .ref oB, .ref oS, .int 0, .int 0, .int 0, .int ve, .int 0, .int 0])), (oS, .inr (6, [.int 224, .int (-1)]))] H := hP
  have hD : va_D A [(h0, .inr (5, [.ref ar, .ref oB, .ref oS, .int 0, .int 0, .int 0, .int ve, .int 0, .int 0])), (oS, .inr (6, [.int 224, .int (-1)]))] := hD
  have hK : va_K (dC, dI) vwCl [] s := hK
  have hl := lv_entry ([.ref h0]) (n := 2) (Nat.le_of_ble_eq_true rfl)
  rw [lg_entry_eq]
  generalize (lg_sl ([.ref h0]) ++ List.replicate (2 - (lg_sl ([.ref h0])).length) Slot.unset).toArray = ls at hl ⊢
  have hl : lv_has ls 2 [(0, .ref h0)] := hl
  refine lv_aload_n hx hb dX6_settle_0 rfl (lv_at hl 0 rfl) ?_
  refine va_get (D := (dC, dI)) (ci := 5) (v := .ref oS) (C := RX6) (T := TX6) (N := 9) hx hb hts (by decide +kernel) hown hK hP 0 rfl rfl 2 (by decide) (hts (.fieldLink RX6 43 "UnibusMachine$Processor" "status" "LUnibusMachine$Status;") (by decide +kernel)) (fun _ h9 => h9) rfl dX6_settle_1 ?_
  refine va_get (D := (dC, dI)) (ci := 6) (v := .int (-1)) (C := RX7) (T := TX7) (N := 2) hx hb hts (by decide +kernel) hown hK hP 1 rfl rfl 1 (by decide) (hts (.fieldLink RX6 73 "UnibusMachine$Status" "written" "I") (by decide +kernel)) (fun _ h9 => h9) rfl dX6_settle_4 ?_
  refine lv_iconst (v := (-1)) hx hb dX6_settle_7 (by decide) ?_
  refine lv_icmp_ne (tgt := 21) hx hb dX6_settle_8 (by decide) (fun c1 => ?_) (fun c1 => ?_)
  · exact absurd c1 (by decide)
  · skip
    refine lv_aload_n hx hb dX6_settle_11 rfl (lv_at hl 0 rfl) ?_
    refine va_get (D := (dC, dI)) (ci := 5) (v := .ref oS) (C := RX6) (T := TX6) (N := 9) hx hb hts (by decide +kernel) hown hK hP 0 rfl rfl 2 (by decide) (hts (.fieldLink RX6 43 "UnibusMachine$Processor" "status" "LUnibusMachine$Status;") (by decide +kernel)) (fun _ h9 => h9) rfl dX6_settle_12 ?_
    refine va_get (D := (dC, dI)) (ci := 6) (v := .int 224) (C := RX7) (T := TX7) (N := 2) hx hb hts (by decide +kernel) hown hK hP 1 rfl rfl 0 (by decide) (hts (.fieldLink RX6 44 "UnibusMachine$Status" "now" "I") (by decide +kernel)) (fun _ h9 => h9) rfl dX6_settle_15 ?_
    refine lv_goto (tgt := 28) hx hb dX6_settle_18 (by decide) ?_
    refine lv_istore_n (lv' := [(1, .int 224), (0, .ref h0)]) hx hb dX6_settle_28 rfl hl (by decide) rfl (fun ls hl => ?_)
    refine lv_aload_n hx hb dX6_settle_29 rfl (lv_at hl 1 rfl) ?_
    refine va_get (D := (dC, dI)) (ci := 5) (v := .int 0) (C := RX6) (T := TX6) (N := 9) hx hb hts (by decide +kernel) hown hK hP 0 rfl rfl 7 (by decide) (hts (.fieldLink RX6 27 "UnibusMachine$Processor" "named" "I") (by decide +kernel)) (fun _ h9 => h9) rfl dX6_settle_30 ?_
    refine lv_if_eq (tgt := 69) hx hb dX6_settle_33 (by decide) (fun c2 => ?_) (fun c2 => ?_)
    · skip
      refine lv_aload_n hx hb dX6_settle_69 rfl (lv_at hl 1 rfl) ?_
      refine lv_iconst (v := 0) hx hb dX6_settle_70 (by decide) ?_
      refine va_put (D := (dC, dI)) (ci := 5) (v := .int 0) (ty := .int) (C := RX6) (T := TX6) (N := 9) hx hb hts (by decide +kernel) tyX6 tyX6_ok nmX6 hown hK hP hD hS 0 rfl rfl 7 (by decide) (hts (.fieldLink RX6 27 "UnibusMachine$Processor" "named" "I") (by decide +kernel)) (fun _ h9 => h9) rfl (by decide +kernel) rfl rfl (Nat.le_of_ble_eq_true rfl) dX6_settle_71 (fun H locs hP hD hS => ?_)
      have hP : va_P (dC, dI) vwCl [(h0, .inr (5, [.ref ar, .ref oB, .ref oS, .int 0, .int 0, .int 0, .int ve, .int 0, .int 0])), (oS, .inr (6, [.int 224, .int (-1)]))] H := hP
      have hD : va_D A [(h0, .inr (5, [.ref ar, .ref oB, .ref oS, .int 0, .int 0, .int 0, .int ve, .int 0, .int 0])), (oS, .inr (6, [.int 224, .int (-1)]))] := hD
      refine lv_aload_n hx hb dX6_settle_74 rfl (lv_at hl 1 rfl) ?_
      refine va_get (D := (dC, dI)) (ci := 5) (v := .ref oS) (C := RX6) (T := TX6) (N := 9) hx hb hts (by decide +kernel) hown hK hP 0 rfl rfl 2 (by decide) (hts (.fieldLink RX6 43 "UnibusMachine$Processor" "status" "LUnibusMachine$Status;") (by decide +kernel)) (fun _ h9 => h9) rfl dX6_settle_75 ?_
      refine lv_iconst (v := (-1)) hx hb dX6_settle_78 (by decide) ?_
      refine va_put (D := (dC, dI)) (ci := 6) (v := .int (-1)) (ty := .int) (C := RX7) (T := TX7) (N := 2) hx hb hts (by decide +kernel) tyX7 tyX7_ok nmX7 hown hK hP hD hS 1 rfl rfl 1 (by decide) (hts (.fieldLink RX6 73 "UnibusMachine$Status" "written" "I") (by decide +kernel)) (fun _ h9 => h9) rfl (by decide +kernel) rfl rfl (Nat.le_of_ble_eq_true rfl) dX6_settle_79 (fun H locs hP hD hS => ?_)
      have hP : va_P (dC, dI) vwCl [(h0, .inr (5, [.ref ar, .ref oB, .ref oS, .int 0, .int 0, .int 0, .int ve, .int 0, .int 0])), (oS, .inr (6, [.int 224, .int (-1)]))] H := hP
      have hD : va_D A [(h0, .inr (5, [.ref ar, .ref oB, .ref oS, .int 0, .int 0, .int 0, .int ve, .int 0, .int 0])), (oS, .inr (6, [.int 224, .int (-1)]))] := hD
      refine lv_aload_n hx hb dX6_settle_82 rfl (lv_at hl 1 rfl) ?_
      refine lv_iload_n hx hb dX6_settle_83 rfl (lv_at hl 0 rfl) ?_
      have hPc := hP.sub (ws' := [(h0, .inr (5, [.ref ar, .ref oB, .ref oS, .int 0, .int 0, .int 0, .int ve, .int 0, .int 0])), (oS, .inr (6, [.int 224, .int (-1)]))]) [0, 1] rfl
      have hDc := hD.sub (ws' := [(h0, .inr (5, [.ref ar, .ref oB, .ref oS, .int 0, .int 0, .int 0, .int ve, .int 0, .int 0])), (oS, .inr (6, [.int 224, .int (-1)]))]) [0, 1] (by decide) rfl
      have hKc := hK.sub (tys' := []) [] rfl
      have hFc := va_free (wc := [(h0, .inr (5, [.ref ar, .ref oB, .ref oS, .int 0, .int 0, .int 0, .int ve, .int 0, .int 0])), (oS, .inr (6, [.int 224, .int (-1)]))]) hD hS hA [0, 1] rfl
      refine va_callv (va_runV (As := [.int 224]) (rest := []) ⟨hx, hb, hml, hown, hts⟩ (c_takeStatus l dC dI h0 ar oB oS ve H.size) (cwV 1 hts gX6_settle_X6_takeStatus rfl rfl rfl (by decide +kernel) ⟨Nat.le_of_ble_eq_true rfl, Nat.le_of_ble_eq_true rfl⟩) ⟨fun a U g mk q => by obtain ⟨q0, q1, qP, qK, qD⟩ := q; exact ⟨q0, q1, qP, va_K.moved (u := U) (U := U.calling g mk a) (Vm.Alike.refl U.vm) qK, qD⟩, va_recv hKc hPc (ci := 5) (q0 := 0) rfl rfl, fun U hU hW => ⟨rfl, by rw [hU], by rw [hU]; exact hPc, va_K.moved hW.alike hKc, hDc.weaken (fun _ _ _ _ => trivial)⟩⟩ rfl rfl hl.1 rfl (lv_room (Nat.le_of_ble_eq_true rfl)) dX6_settle_84 ⟨Nat.le_of_ble_eq_true rfl, Nat.le_of_ble_eq_true rfl⟩) hS (fun q _ h => hFc q h) hFc (fun u4 t H1 locs ht hvm hw hB hz1 hk1 hS => ?_)
      obtain ⟨hP1, hK1, hD1⟩ := hB
      rw [ht] at hP1
      have hK1 := va_K.moved hvm.symm hK1
      try dsimp only at hw
      obtain ⟨hP, hD⟩ := va_join (wr := []) (w1 := [(h0, .inr (5, [.ref ar, .ref oB, .ref oS, .int 0, .int 0, .int 0, .int ve, .int 0, .int 0])), (oS, .inr (6, [.int 224, .int (-1)]))]) hP hD [0, 1] [] rfl rfl (by decide) (by decide) hk1 hFc hP1 hD1
      have hK := (hK.sub (tys' := []) [] rfl).app hK1
      generalize H1 = H at hP hS ⊢
      have hP : va_P (dC, dI) vwCl [(h0, .inr (5, [.ref ar, .ref oB, .ref oS, .int 0, .int 0, .int 0, .int ve, .int 0, .int 0])), (oS, .inr (6, [.int 224, .int (-1)]))] H := hP
      have hD : va_D A [(h0, .inr (5, [.ref ar, .ref oB, .ref oS, .int 0, .int 0, .int 0, .int ve, .int 0, .int 0])), (oS, .inr (6, [.int 224, .int (-1)]))] := hD
      have hK : va_K (dC, dI) vwCl [] s := hK
      refine W.widen (k := 0) (n := 0) (Nat.le_of_ble_eq_true rfl) (Nat.le_of_ble_eq_true rfl) ?_
      have hP9 := hP.sub (ws' := [(h0, .inr (5, [.ref ar, .ref oB, .ref oS, .int 0, .int 0, .int 0, .int ve, .int 0, .int 0])), (oS, .inr (6, [.int 224, .int (-1)]))]) [0, 1] rfl
      have hD9 := hD.sub (ws' := [(h0, .inr (5, [.ref ar, .ref oB, .ref oS, .int 0, .int 0, .int 0, .int ve, .int 0, .int 0])), (oS, .inr (6, [.int 224, .int (-1)]))]) [0, 1] (by decide) rfl
      have hK9 := hK.sub (tys' := []) [] rfl
      exact W.vret hx hb hr (fun t ht hW => ⟨⟨(), rfl, trivial, by rw [ht]; exact hP9, va_K.moved hW.alike hK9, hD9⟩, hS.F ht⟩) hS.2.2 dX6_settle_87
    · exact absurd c2 (by decide)
set_option maxHeartbeats 4000000 in
set_option maxRecDepth 100000 in
theorem c_enter4 (l : Launch) (dC : Nat → ClassId) (dI : Nat → Nat → Nat) (h0 : Nat) (ar : Nat) (oB : Nat) (oS : Nat) (ve : Int32) (am : Nat) (oM : Nat) (oK : Nat) (oL : Nat) (oD : Nat) (ad : Nat) (ab : Nat) (tm : ClassId) (f : Nat → Int32) (tr : ClassId) (g : Nat → Int32) (z : Int) (sz : Nat) (hF0 : f (2 : Int32).toNatClampNeg = 1) (hF1 : f (3 : Int32).toNatClampNeg = 224) (hF2 : g (7 : Int32).toNatClampNeg = 1) (hF3 : (g (6 : Int32).toNatClampNeg).toInt = z) (hH4 : 170 ≤ z) (hH5 : z ≤ 1024) (hH6 : z % 2 = 0) : Met l yX6_enter wsX6_enter ({ frames := 5, cells := 0, slots := 0, locals := 126 } : Room) (va_Pc [.ref h0, .int 4] (fun U => U.heap.size = sz ∧ va_P (dC, dI) vwCl [(h0, .inr (5, [.ref ar, .ref oB, .ref oS, .int 0, .int 0, .int 0, .int ve, .int 0, .int 0])), (oS, .inr (6, [.int 224, .int (-1)])), (oB, .inr (0, [.ref am, .ref oM, .ref oS, .ref oK, .ref oL, .ref oD])), (oM, .inr (3, [.ref ad, .ref ab, .int 0])), (am, .inl (tm, 512, .inl f)), (ar, .inl (tr, 8, .inl g))] U.heap ∧ va_K (dC, dI) vwCl [(tm, .int), (tr, .int)] U ∧ va_D (fun _ => True) [(h0, .inr (5, [.ref ar, .ref oB, .ref oS, .int 0, .int 0, .int 0, .int ve, .int 0, .int 0])), (oS, .inr (6, [.int 224, .int (-1)])), (oB, .inr (0, [.ref am, .ref oM, .ref oS, .ref oK, .ref oL, .ref oD])), (oM, .inr (3, [.ref ad, .ref ab, .int 0])), (am, .inl (tm, 512, .inl f)), (ar, .inl (tr, 8, .inl g))])) (va_Qv (fun (u : (Nat → Int32) × (Nat → Int32)) => (u.1 (2 : Int32).toNatClampNeg = 1) ∧ (u.1 (3 : Int32).toNatClampNeg = 224) ∧ (u.2 (7 : Int32).toNatClampNeg = 1) ∧ ((u.2 (6 : Int32).toNatClampNeg).toInt = z - 4)) (fun (u : (Nat → Int32) × (Nat → Int32)) (t : State) => va_P (dC, dI) vwCl [(h0, .inr (5, [.ref ar, .ref oB, .ref oS, .int 0, .int 0, .int 0, .int ve, .int 0, .int 0])), (oS, .inr (6, [.int 224, .int (-1)])), (oB, .inr (0, [.ref am, .ref oM, .ref oS, .ref oK, .ref oL, .ref oD])), (oM, .inr (3, [.ref ad, .ref ab, .int 0])), (am, .inl (tm, 512, .inl u.1)), (ar, .inl (tr, 8, .inl u.2))] t.heap ∧ va_K (dC, dI) vwCl [(tm, .int), (tr, .int)] t ∧ va_D (va_A [(h0, .inr (5, [.ref ar, .ref oB, .ref oS, .int 0, .int 0, .int 0, .int ve, .int 0, .int 0])), (oS, .inr (6, [.int 224, .int (-1)])), (oB, .inr (0, [.ref am, .ref oM, .ref oS, .ref oK, .ref oL, .ref oD])), (oM, .inr (3, [.ref ad, .ref ab, .int 0])), (am, .inl (tm, 512, .inl f)), (ar, .inl (tr, 8, .inl g))] sz) [(h0, .inr (5, [.ref ar, .ref oB, .ref oS, .int 0, .int 0, .int 0, .int ve, .int 0, .int 0])), (oS, .inr (6, [.int 224, .int (-1)])), (oB, .inr (0, [.ref am, .ref oM, .ref oS, .ref oK, .ref oL, .ref oD])), (oM, .inr (3, [.ref ad, .ref ab, .int 0])), (am, .inl (tm, 512, .inl u.1)), (ar, .inl (tr, 8, .inl u.2))]) (va_A [(h0, .inr (5, [.ref ar, .ref oB, .ref oS, .int 0, .int 0, .int 0, .int ve, .int 0, .int 0])), (oS, .inr (6, [.int 224, .int (-1)])), (oB, .inr (0, [.ref am, .ref oM, .ref oS, .ref oK, .ref oL, .ref oD])), (oM, .inr (3, [.ref ad, .ref ab, .int 0])), (am, .inl (tm, 512, .inl f)), (ar, .inl (tr, 8, .inl g))] sz)) 0 0 (va_A [(h0, .inr (5, [.ref ar, .ref oB, .ref oS, .int 0, .int 0, .int 0, .int ve, .int 0, .int 0])), (oS, .inr (6, [.int 224, .int (-1)])), (oB, .inr (0, [.ref am, .ref oM, .ref oS, .ref oK, .ref oL, .ref oD])), (oM, .inr (3, [.ref ad, .ref ab, .int 0])), (am, .inl (tm, 512, .inl f)), (ar, .inl (tr, 8, .inl g))] sz) := by
  refine va_MetW (cc := cX6_enter) (maxL := 3) (ret := none) (by decide) rfl ?_
  intro p e s m args below meth c s₁ B hml hv
  obtain ⟨rfl, hsz, hP, hK, hD0⟩ := hv
  have hx := B.exec
  have hb := B.bytes
  have hr := B.returns
  have hts := atoms_spec (ws := wsX6_enter) B.pre
  have hown : s.vm.findClass RX6 = some m.cls := findClass_of_methodNamed B.named
  have hlocks := B.notSynchronized
  have htb := vx_table (x := yX6_enter) (y := yX6_enter) (bytes := cX6_enter) (maxL' := 3) (ret' := none) (hh := [(0, 5, 8, 65)]) B (hts _ List.mem_cons_self)
  have hD := hD0.self (sz := sz)
  generalize hAe : va_A [(h0, .inr (5, [.ref ar, .ref oB, .ref oS, .int 0, .int 0, .int 0, .int ve, .int 0, .int 0])), (oS, .inr (6, [.int 224, .int (-1)])), (oB, .inr (0, [.ref am, .ref oM, .ref oS, .ref oK, .ref oL, .ref oD])), (oM, .inr (3, [.ref ad, .ref ab, .int 0])), (am, .inl (tm, 512, .inl f)), (ar, .inl (tr, 8, .inl g))] sz = A at hD ⊢
  have hA : ∀ q : Nat, s.heap.size ≤ q → A q := fun q h => by rw [← hAe]; exact Or.inr (by omega)
  have hS0 : ∀ G : Heap, s.heap = G → va_S A s.heap G [] := fun G h => by subst h; exact va_S.rf
  generalize hHe : s.heap = H at hP ⊢
  have hS := hS0 H hHe
  have hP : va_P (dC, dI) vwCl [(h0, .inr (5, [.ref ar, .ref oB, .ref oS, .int 0, .int 0, .int 0, .int ve, .int 0, .int 0])), (oS, .inr (6, [.int 224, .int (-1)])), (oB, .inr (0, [.ref am, .ref oM, .ref oS, .ref oK, .ref oL, .ref oD])), (oM, .inr (3, [.ref ad, .ref ab, .int 0])), (am, .inl (tm, 512, .inl f)), (ar, .inl (tr, 8, .inl g))] H := hP
  have hD : va_D A [(h0, .inr (5, [.ref ar, .ref oB, .ref oS, .int 0, .int 0, .int 0, .int ve, .int 0, .int 0])), (oS, .inr (6, [.int 224, .int (-1)])), (oB, .inr (0, [.ref am, .ref oM, .ref oS, .ref oK, .ref oL, .ref oD])), (oM, .inr (3, [.ref ad, .ref ab, .int 0])), (am, .inl (tm, 512, .inl f)), (ar, .inl (tr, 8, .inl g))] := hD
  have hK : va_K (dC, dI) vwCl [(tm, .int), (tr, .int)] s := hK
  have hl := lv_entry ([.ref h0, .int 4]) (n := 3) (Nat.le_of_ble_eq_true rfl)
  rw [lg_entry_eq]
  generalize (lg_sl ([.ref h0, .int 4]) ++ List.replicate (3 - (lg_sl ([.ref h0, .int 4])).length) Slot.unset).toArray = ls at hl ⊢
  have hl : lv_has ls 3 [(0, .ref h0), (1, .int 4)] := hl
  refine lv_aload_n hx hb dX6_enter_0 rfl (lv_at hl 0 rfl) ?_
  refine lv_iload_n hx hb dX6_enter_1 rfl (lv_at hl 1 rfl) ?_
  have hPc := hP.sub (ws' := [(h0, .inr (5, [.ref ar, .ref oB, .ref oS, .int 0, .int 0, .int 0, .int ve, .int 0, .int 0])), (oS, .inr (6, [.int 224, .int (-1)])), (oB, .inr (0, [.ref am, .ref oM, .ref oS, .ref oK, .ref oL, .ref oD])), (oM, .inr (3, [.ref ad, .ref ab, .int 0])), (am, .inl (tm, 512, .inl f)), (ar, .inl (tr, 8, .inl g))]) [0, 1, 2, 3, 4, 5] rfl
  have hDc := hD.sub (ws' := [(h0, .inr (5, [.ref ar, .ref oB, .ref oS, .int 0, .int 0, .int 0, .int ve, .int 0, .int 0])), (oS, .inr (6, [.int 224, .int (-1)])), (oB, .inr (0, [.ref am, .ref oM, .ref oS, .ref oK, .ref oL, .ref oD])), (oM, .inr (3, [.ref ad, .ref ab, .int 0])), (am, .inl (tm, 512, .inl f)), (ar, .inl (tr, 8, .inl g))]) [0, 1, 2, 3, 4, 5] (by decide) rfl
  have hKc := hK.sub (tys' := [(tm, .int), (tr, .int)]) [0, 1] rfl
  have hFc := va_free (wc := [(h0, .inr (5, [.ref ar, .ref oB, .ref oS, .int 0, .int 0, .int 0, .int ve, .int 0, .int 0])), (oS, .inr (6, [.int 224, .int (-1)])), (oB, .inr (0, [.ref am, .ref oM, .ref oS, .ref oK, .ref oL, .ref oD])), (oM, .inr (3, [.ref ad, .ref ab, .int 0])), (am, .inl (tm, 512, .inl f)), (ar, .inl (tr, 8, .inl g))]) hD hS hA [0, 1, 2, 3, 4, 5] rfl
  refine va_callv (va_runV (As := [.int 4]) (rest := []) ⟨hx, hb, hml, hown, hts⟩ (c_trap4 l dC dI h0 ar oB oS ve am oM oK oL oD ad ab tm f tr g z H.size (by first | assumption | omega | decide) (by first | assumption | omega | decide) (by first | assumption | omega | decide) (by first | assumption | omega | decide) (by first | assumption | omega | decide) (by first | assumption | omega | decide) (by first | assumption | omega | decide)) (cwV 1 hts gX6_enter_X6_trap rfl rfl rfl (by decide +kernel) ⟨Nat.le_of_ble_eq_true rfl, Nat.le_of_ble_eq_true rfl⟩) ⟨fun a U g mk q => by obtain ⟨q0, q1, qP, qK, qD⟩ := q; exact ⟨q0, q1, qP, va_K.moved (u := U) (U := U.calling g mk a) (Vm.Alike.refl U.vm) qK, qD⟩, va_recv hKc hPc (ci := 5) (q0 := 0) rfl rfl, fun U hU hW => ⟨rfl, by rw [hU], by rw [hU]; exact hPc, va_K.moved hW.alike hKc, hDc.weaken (fun _ _ _ _ => trivial)⟩⟩ rfl rfl hl.1 rfl (lv_room (Nat.le_of_ble_eq_true rfl)) dX6_enter_2 ⟨Nat.le_of_ble_eq_true rfl, Nat.le_of_ble_eq_true rfl⟩) hS (fun q _ h => hFc q h) hFc (fun u2 t H1 locs ht hvm hw hB hz1 hk1 hS => ?_)
  obtain ⟨hP1, hK1, hD1⟩ := hB
  rw [ht] at hP1
  have hK1 := va_K.moved hvm.symm hK1
  try dsimp only at hw
  obtain ⟨hP, hD⟩ := va_join (wr := []) (w1 := [(h0, .inr (5, [.ref ar, .ref oB, .ref oS, .int 0, .int 0, .int 0, .int ve, .int 0, .int 0])), (oS, .inr (6, [.int 224, .int (-1)])), (oB, .inr (0, [.ref am, .ref oM, .ref oS, .ref oK, .ref oL, .ref oD])), (oM, .inr (3, [.ref ad, .ref ab, .int 0])), (am, .inl (tm, 512, .inl u2.1)), (ar, .inl (tr, 8, .inl u2.2))]) hP hD [0, 1, 2, 3, 4, 5] [] rfl rfl (by decide) (by decide) hk1 hFc hP1 hD1
  have hK := (hK.sub (tys' := []) [] rfl).app hK1
  generalize H1 = H at hP hS ⊢
  have hP : va_P (dC, dI) vwCl [(h0, .inr (5, [.ref ar, .ref oB, .ref oS, .int 0, .int 0, .int 0, .int ve, .int 0, .int 0])), (oS, .inr (6, [.int 224, .int (-1)])), (oB, .inr (0, [.ref am, .ref oM, .ref oS, .ref oK, .ref oL, .ref oD])), (oM, .inr (3, [.ref ad, .ref ab, .int 0])), (am, .inl (tm, 512, .inl u2.1)), (ar, .inl (tr, 8, .inl u2.2))] H := hP
  have hD : va_D A [(h0, .inr (5, [.ref ar, .ref oB, .ref oS, .int 0, .int 0, .int 0, .int ve, .int 0, .int 0])), (oS, .inr (6, [.int 224, .int (-1)])), (oB, .inr (0, [.ref am, .ref oM, .ref oS, .ref oK, .ref oL, .ref oD])), (oM, .inr (3, [.ref ad, .ref ab, .int 0])), (am, .inl (tm, 512, .inl u2.1)), (ar, .inl (tr, 8, .inl u2.2))] := hD
  have hK : va_K (dC, dI) vwCl [(tm, .int), (tr, .int)] s := hK
  refine W.widen (k := 0) (n := 0) (Nat.le_of_ble_eq_true rfl) (Nat.le_of_ble_eq_true rfl) ?_
  obtain ⟨_, _, _, _⟩ := hw
  refine lv_goto (tgt := 14) hx hb dX6_enter_5 (by decide) ?_
  refine lv_aload_n hx hb dX6_enter_14 rfl (lv_at hl 0 rfl) ?_
  have hPc := hP.sub (ws' := [(h0, .inr (5, [.ref ar, .ref oB, .ref oS, .int 0, .int 0, .int 0, .int ve, .int 0, .int 0])), (oS, .inr (6, [.int 224, .int (-1)]))]) [0, 1] rfl
  have hDc := hD.sub (ws' := [(h0, .inr (5, [.ref ar, .ref oB, .ref oS, .int 0, .int 0, .int 0, .int ve, .int 0, .int 0])), (oS, .inr (6, [.int 224, .int (-1)]))]) [0, 1] (by decide) rfl
  have hKc := hK.sub (tys' := []) [] rfl
  have hFc := va_free (wc := [(h0, .inr (5, [.ref ar, .ref oB, .ref oS, .int 0, .int 0, .int 0, .int ve, .int 0, .int 0])), (oS, .inr (6, [.int 224, .int (-1)]))]) hD hS hA [0, 1] rfl
  refine va_callv (va_runV (As := []) (rest := []) ⟨hx, hb, hml, hown, hts⟩ (c_settle l dC dI h0 ar oB oS ve H.size) (cwV 0 hts gX6_enter_X6_settle rfl rfl rfl (by decide +kernel) ⟨Nat.le_of_ble_eq_true rfl, Nat.le_of_ble_eq_true rfl⟩) ⟨fun a U g mk q => by obtain ⟨q0, q1, qP, qK, qD⟩ := q; exact ⟨q0, q1, qP, va_K.moved (u := U) (U := U.calling g mk a) (Vm.Alike.refl U.vm) qK, qD⟩, va_recv hKc hPc (ci := 5) (q0 := 0) rfl rfl, fun U hU hW => ⟨rfl, by rw [hU], by rw [hU]; exact hPc, va_K.moved hW.alike hKc, hDc.weaken (fun _ _ _ _ => trivial)⟩⟩ rfl rfl hl.1 rfl (lv_room (Nat.le_of_ble_eq_true rfl)) dX6_enter_15 ⟨Nat.le_of_ble_eq_true rfl, Nat.le_of_ble_eq_true rfl⟩) hS (fun q _ h => hFc q h) hFc (fun u4 t H1 locs ht hvm hw hB hz1 hk1 hS => ?_)
  obtain ⟨hP1, hK1, hD1⟩ := hB
  rw [ht] at hP1
  have hK1 := va_K.moved hvm.symm hK1
  try dsimp only at hw
  obtain ⟨hP, hD⟩ := va_join (wr := [(oB, .inr (0, [.ref am, .ref oM, .ref oS, .ref oK, .ref oL, .ref oD])), (oM, .inr (3, [.ref ad, .ref ab, .int 0])), (am, .inl (tm, 512, .inl u2.1)), (ar, .inl (tr, 8, .inl u2.2))]) (w1 := [(h0, .inr (5, [.ref ar, .ref oB, .ref oS, .int 0, .int 0, .int 0, .int ve, .int 0, .int 0])), (oS, .inr (6, [.int 224, .int (-1)]))]) hP hD [0, 1] [2, 3, 4, 5] rfl rfl (by decide) (by decide) hk1 hFc hP1 hD1
  have hK := (hK.sub (tys' := [(tm, .int), (tr, .int)]) [0, 1] rfl).app hK1
  generalize H1 = H at hP hS ⊢
  have hP : va_P (dC, dI) vwCl [(oB, .inr (0, [.ref am, .ref oM, .ref oS, .ref oK, .ref oL, .ref oD])), (oM, .inr (3, [.ref ad, .ref ab, .int 0])), (am, .inl (tm, 512, .inl u2.1)), (ar, .inl (tr, 8, .inl u2.2)), (h0, .inr (5, [.ref ar, .ref oB, .ref oS, .int 0, .int 0, .int 0, .int ve, .int 0, .int 0])), (oS, .inr (6, [.int 224, .int (-1)]))] H := hP
  have hD : va_D A [(oB, .inr (0, [.ref am, .ref oM, .ref oS, .ref oK, .ref oL, .ref oD])), (oM, .inr (3, [.ref ad, .ref ab, .int 0])), (am, .inl (tm, 512, .inl u2.1)), (ar, .inl (tr, 8, .inl u2.2)), (h0, .inr (5, [.ref ar, .ref oB, .ref oS, .int 0, .int 0, .int 0, .int ve, .int 0, .int 0])), (oS, .inr (6, [.int 224, .int (-1)]))] := hD
  have hK : va_K (dC, dI) vwCl [(tm, .int), (tr, .int)] s := hK
  refine W.widen (k := 0) (n := 0) (Nat.le_of_ble_eq_true rfl) (Nat.le_of_ble_eq_true rfl) ?_
  have hx5 : u2.1 (2 : Int32).toNatClampNeg = 1 := by first | assumption | omega
  have hx6 : u2.1 (3 : Int32).toNatClampNeg = 224 := by first | assumption | omega
  have hx7 : u2.2 (7 : Int32).toNatClampNeg = 1 := by first | assumption | omega
  have hx8 : (u2.2 (6 : Int32).toNatClampNeg).toInt = z - 4 := by first | assumption | omega
  have hP9 := hP.sub (ws' := [(h0, .inr (5, [.ref ar, .ref oB, .ref oS, .int 0, .int 0, .int 0, .int ve, .int 0, .int 0])), (oS, .inr (6, [.int 224, .int (-1)])), (oB, .inr (0, [.ref am, .ref oM, .ref oS, .ref oK, .ref oL, .ref oD])), (oM, .inr (3, [.ref ad, .ref ab, .int 0])), (am, .inl (tm, 512, .inl u2.1)), (ar, .inl (tr, 8, .inl u2.2))]) [4, 5, 0, 1, 2, 3] rfl
  have hD9 := hD.sub (ws' := [(h0, .inr (5, [.ref ar, .ref oB, .ref oS, .int 0, .int 0, .int 0, .int ve, .int 0, .int 0])), (oS, .inr (6, [.int 224, .int (-1)])), (oB, .inr (0, [.ref am, .ref oM, .ref oS, .ref oK, .ref oL, .ref oD])), (oM, .inr (3, [.ref ad, .ref ab, .int 0])), (am, .inl (tm, 512, .inl u2.1)), (ar, .inl (tr, 8, .inl u2.2))]) [4, 5, 0, 1, 2, 3] (by decide) rfl
  have hK9 := hK.sub (tys' := [(tm, .int), (tr, .int)]) [0, 1] rfl
  exact W.vret hx hb hr (fun t ht hW => ⟨⟨(u2.1, u2.2), rfl, ⟨hx5, hx6, hx7, hx8⟩, by rw [ht]; exact hP9, va_K.moved hW.alike hK9, hD9⟩, hS.F ht⟩) hS.2.2 dX6_enter_18
set_option maxHeartbeats 4000000 in
set_option maxRecDepth 100000 in
theorem c_nextInstruction (l : Launch) (dC : Nat → ClassId) (dI : Nat → Nat → Nat) (h0 : Nat) (am : Nat) (oM : Nat) (oS : Nat) (oK : Nat) (oL : Nat) (oD : Nat) (ap : Nat) (aw : Nat) (sz : Nat) : Met l yX0_nextInstruction wsX0_nextInstruction ({ frames := 0, cells := 0, slots := 0, locals := 0 } : Room) (va_Pc [.ref h0] (fun U => U.heap.size = sz ∧ va_P (dC, dI) vwCl [(h0, .inr (0, [.ref am, .ref oM, .ref oS, .ref oK, .ref oL, .ref oD])), (oL, .inr (4, [.int 128, .int 0, .ref ap, .int 0, .int 0, .int 0, .int 0])), (oD, .inr (1, [.int 128, .int 0, .ref aw, .int 0, .int 0, .int 0, .int 0, .int 0, .int 0, .int 0]))] U.heap ∧ va_K (dC, dI) vwCl [] U ∧ va_D (fun _ => True) [(h0, .inr (0, [.ref am, .ref oM, .ref oS, .ref oK, .ref oL, .ref oD])), (oL, .inr (4, [.int 128, .int 0, .ref ap, .int 0, .int 0, .int 0, .int 0])), (oD, .inr (1, [.int 128, .int 0, .ref aw, .int 0, .int 0, .int 0, .int 0, .int 0, .int 0, .int 0]))])) (va_Qv (fun (u : Unit) => True) (fun (u : Unit) (t : State) => va_P (dC, dI) vwCl [(h0, .inr (0, [.ref am, .ref oM, .ref oS, .ref oK, .ref oL, .ref oD])), (oL, .inr (4, [.int 128, .int 0, .ref ap, .int 0, .int 0, .int 0, .int 0])), (oD, .inr (1, [.int 128, .int 0, .ref aw, .int 0, .int 0, .int 0, .int 0, .int 0, .int 0, .int 0]))] t.heap ∧ va_K (dC, dI) vwCl [] t ∧ va_D (va_A [(h0, .inr (0, [.ref am, .ref oM, .ref oS, .ref oK, .ref oL, .ref oD])), (oL, .inr (4, [.int 128, .int 0, .ref ap, .int 0, .int 0, .int 0, .int 0])), (oD, .inr (1, [.int 128, .int 0, .ref aw, .int 0, .int 0, .int 0, .int 0, .int 0, .int 0, .int 0]))] sz) [(h0, .inr (0, [.ref am, .ref oM, .ref oS, .ref oK, .ref oL, .ref oD])), (oL, .inr (4, [.int 128, .int 0, .ref ap, .int 0, .int 0, .int 0, .int 0])), (oD, .inr (1, [.int 128, .int 0, .ref aw, .int 0, .int 0, .int 0, .int 0, .int 0, .int 0, .int 0]))]) (va_A [(h0, .inr (0, [.ref am, .ref oM, .ref oS, .ref oK, .ref oL, .ref oD])), (oL, .inr (4, [.int 128, .int 0, .ref ap, .int 0, .int 0, .int 0, .int 0])), (oD, .inr (1, [.int 128, .int 0, .ref aw, .int 0, .int 0, .int 0, .int 0, .int 0, .int 0, .int 0]))] sz)) 0 0 (va_A [(h0, .inr (0, [.ref am, .ref oM, .ref oS, .ref oK, .ref oL, .ref oD])), (oL, .inr (4, [.int 128, .int 0, .ref ap, .int 0, .int 0, .int 0, .int 0])), (oD, .inr (1, [.int 128, .int 0, .ref aw, .int 0, .int 0, .int 0, .int 0, .int 0, .int 0, .int 0]))] sz) := by
  refine Met.ofW (cc := cX0_nextInstruction) (maxL := 1) (ret := none) (by decide) rfl ?_
  intro p e s m args below meth c s₁ B hml hv
  obtain ⟨rfl, hsz, hP, hK, hD0⟩ := hv
  have hx := B.exec
  have hb := B.bytes
  have hr := B.returns
  have hts := atoms_spec (ws := wsX0_nextInstruction) B.pre
  have hown : s.vm.findClass RX0 = some m.cls := findClass_of_methodNamed B.named
  have hlocks := B.notSynchronized
  have hD := hD0.self (sz := sz)
  generalize hAe : va_A [(h0, .inr (0, [.ref am, .ref oM, .ref oS, .ref oK, .ref oL, .ref oD])), (oL, .inr (4, [.int 128, .int 0, .ref ap, .int 0, .int 0, .int 0, .int 0])), (oD, .inr (1, [.int 128, .int 0, .ref aw, .int 0, .int 0, .int 0, .int 0, .int 0, .int 0, .int 0]))] sz = A at hD ⊢
  have hA : ∀ q : Nat, s.heap.size ≤ q → A q := fun q h => by rw [← hAe]; exact Or.inr (by omega)
  have hS0 : ∀ G : Heap, s.heap = G → va_S A s.heap G [] := fun G h => by subst h; exact va_S.rf
  generalize hHe : s.heap = H at hP ⊢
  have hS := hS0 H hHe
  have hP : va_P (dC, dI) vwCl [(h0, .inr (0, [.ref am, .ref oM, .ref oS, .ref oK, .ref oL, .ref oD])), (oL, .inr (4, [.int 128, .int 0, .ref ap, .int 0, .int 0, .int 0, .int 0])), (oD, .inr (1, [.int 128, .int 0, .ref aw, .int 0, .int 0, .int 0, .int 0, .int 0, .int 0, .int 0]))] H := hP
  have hD : va_D A [(h0, .inr (0, [.ref am, .ref oM, .ref oS, .ref oK, .ref oL, .ref oD])), (oL, .inr (4, [.int 128, .int 0, .ref ap, .int 0, .int 0, .int 0, .int 0])), (oD, .inr (1, [.int 128, .int 0, .ref aw, .int 0, .int 0, .int 0, .int 0, .int 0, .int 0, .int 0]))] := hD
  have hK : va_K (dC, dI) vwCl [] s := hK
  have hl := lv_entry ([.ref h0]) (n := 1) (Nat.le_of_ble_eq_true rfl)
  rw [lg_entry_eq]
  generalize (lg_sl ([.ref h0]) ++ List.replicate (1 - (lg_sl ([.ref h0])).length) Slot.unset).toArray = ls at hl ⊢
  have hl : lv_has ls 1 [(0, .ref h0)] := hl
  refine lv_aload_n hx hb dX0_nextInstruction_0 rfl (lv_at hl 0 rfl) ?_
  refine va_get (D := (dC, dI)) (ci := 0) (v := .ref oL) (C := RX0) (T := TX0) (N := 6) hx hb hts (by decide +kernel) hown hK hP 0 rfl rfl 4 (by decide) (hts (.fieldLink RX0 37 "UnibusMachine$Bus" "printer" "LUnibusMachine$Printer;") (by decide +kernel)) (fun _ h9 => h9) rfl dX0_nextInstruction_1 ?_
  refine lv_iconst (v := 0) hx hb dX0_nextInstruction_4 (by decide) ?_
  refine va_put (D := (dC, dI)) (ci := 4) (v := .int 0) (ty := .boolean) (C := RX5) (T := TX5) (N := 7) hx hb hts (by decide +kernel) tyX5 tyX5_ok nmX5 hown hK hP hD hS 1 rfl rfl 6 (by decide) (hts (.fieldLink RX0 108 "UnibusMachine$Printer" "fresh" "Z") (by decide +kernel)) (fun _ h9 => h9) rfl (by decide +kernel) (by decide) rfl (Nat.le_of_ble_eq_true rfl) dX0_nextInstruction_5 (fun H locs hP hD hS => ?_)
  have hP : va_P (dC, dI) vwCl [(h0, .inr (0, [.ref am, .ref oM, .ref oS, .ref oK, .ref oL, .ref oD])), (oL, .inr (4, [.int 128, .int 0, .ref ap, .int 0, .int 0, .int 0, .int 0])), (oD, .inr (1, [.int 128, .int 0, .ref aw, .int 0, .int 0, .int 0, .int 0, .int 0, .int 0, .int 0]))] H := hP
  have hD : va_D A [(h0, .inr (0, [.ref am, .ref oM, .ref oS, .ref oK, .ref oL, .ref oD])), (oL, .inr (4, [.int 128, .int 0, .ref ap, .int 0, .int 0, .int 0, .int 0])), (oD, .inr (1, [.int 128, .int 0, .ref aw, .int 0, .int 0, .int 0, .int 0, .int 0, .int 0, .int 0]))] := hD
  refine lv_aload_n hx hb dX0_nextInstruction_8 rfl (lv_at hl 0 rfl) ?_
  refine va_get (D := (dC, dI)) (ci := 0) (v := .ref oD) (C := RX0) (T := TX0) (N := 6) hx hb hts (by decide +kernel) hown hK hP 0 rfl rfl 5 (by decide) (hts (.fieldLink RX0 44 "UnibusMachine$Bus" "drive" "LUnibusMachine$Drive;") (by decide +kernel)) (fun _ h9 => h9) rfl dX0_nextInstruction_9 ?_
  refine lv_iconst (v := 0) hx hb dX0_nextInstruction_12 (by decide) ?_
  refine va_put (D := (dC, dI)) (ci := 1) (v := .int 0) (ty := .boolean) (C := RX1) (T := TX1) (N := 10) hx hb hts (by decide +kernel) tyX1 tyX1_ok nmX1 hown hK hP hD hS 2 rfl rfl 9 (by decide) (hts (.fieldLink RX0 112 "UnibusMachine$Drive" "fresh" "Z") (by decide +kernel)) (fun _ h9 => h9) rfl (by decide +kernel) (by decide) rfl (Nat.le_of_ble_eq_true rfl) dX0_nextInstruction_13 (fun H locs hP hD hS => ?_)
  have hP : va_P (dC, dI) vwCl [(h0, .inr (0, [.ref am, .ref oM, .ref oS, .ref oK, .ref oL, .ref oD])), (oL, .inr (4, [.int 128, .int 0, .ref ap, .int 0, .int 0, .int 0, .int 0])), (oD, .inr (1, [.int 128, .int 0, .ref aw, .int 0, .int 0, .int 0, .int 0, .int 0, .int 0, .int 0]))] H := hP
  have hD : va_D A [(h0, .inr (0, [.ref am, .ref oM, .ref oS, .ref oK, .ref oL, .ref oD])), (oL, .inr (4, [.int 128, .int 0, .ref ap, .int 0, .int 0, .int 0, .int 0])), (oD, .inr (1, [.int 128, .int 0, .ref aw, .int 0, .int 0, .int 0, .int 0, .int 0, .int 0, .int 0]))] := hD
  have hP9 := hP.sub (ws' := [(h0, .inr (0, [.ref am, .ref oM, .ref oS, .ref oK, .ref oL, .ref oD])), (oL, .inr (4, [.int 128, .int 0, .ref ap, .int 0, .int 0, .int 0, .int 0])), (oD, .inr (1, [.int 128, .int 0, .ref aw, .int 0, .int 0, .int 0, .int 0, .int 0, .int 0, .int 0]))]) [0, 1, 2] rfl
  have hD9 := hD.sub (ws' := [(h0, .inr (0, [.ref am, .ref oM, .ref oS, .ref oK, .ref oL, .ref oD])), (oL, .inr (4, [.int 128, .int 0, .ref ap, .int 0, .int 0, .int 0, .int 0])), (oD, .inr (1, [.int 128, .int 0, .ref aw, .int 0, .int 0, .int 0, .int 0, .int 0, .int 0, .int 0]))]) [0, 1, 2] (by decide) rfl
  have hK9 := hK.sub (tys' := []) [] rfl
  exact W.vret hx hb hr (fun t ht hW => ⟨⟨(), rfl, trivial, by rw [ht]; exact hP9, va_K.moved hW.alike hK9, hD9⟩, hS.F ht⟩) hS.2.2 dX0_nextInstruction_16
set_option maxHeartbeats 4000000 in
set_option maxRecDepth 100000 in
theorem c_goOnP (l : Launch) (dC : Nat → ClassId) (dI : Nat → Nat → Nat) (h0 : Nat) (ap : Nat) (sz : Nat) : Met l yX5_goOn wsX5_goOn ({ frames := 0, cells := 0, slots := 0, locals := 0 } : Room) (va_Pc [.ref h0] (fun U => U.heap.size = sz ∧ va_P (dC, dI) vwCl [(h0, .inr (4, [.int 128, .int 0, .ref ap, .int 0, .int 0, .int 0, .int 0]))] U.heap ∧ va_K (dC, dI) vwCl [] U ∧ va_D (fun _ => True) [(h0, .inr (4, [.int 128, .int 0, .ref ap, .int 0, .int 0, .int 0, .int 0]))])) (va_Qv (fun (u : Unit) => True) (fun (u : Unit) (t : State) => va_P (dC, dI) vwCl [(h0, .inr (4, [.int 128, .int 0, .ref ap, .int 0, .int 0, .int 0, .int 0]))] t.heap ∧ va_K (dC, dI) vwCl [] t ∧ va_D (va_A [(h0, .inr (4, [.int 128, .int 0, .ref ap, .int 0, .int 0, .int 0, .int 0]))] sz) [(h0, .inr (4, [.int 128, .int 0, .ref ap, .int 0, .int 0, .int 0, .int 0]))]) (va_A [(h0, .inr (4, [.int 128, .int 0, .ref ap, .int 0, .int 0, .int 0, .int 0]))] sz)) 0 0 (va_A [(h0, .inr (4, [.int 128, .int 0, .ref ap, .int 0, .int 0, .int 0, .int 0]))] sz) := by
  refine Met.ofW (cc := cX5_goOn) (maxL := 1) (ret := none) (by decide) rfl ?_
  intro p e s m args below meth c s₁ B hml hv
  obtain ⟨rfl, hsz, hP, hK, hD0⟩ := hv
  have hx := B.exec
  have hb := B.bytes
  have hr := B.returns
  have hts := atoms_spec (ws := wsX5_goOn) B.pre
  have hown : s.vm.findClass RX5 = some m.cls := findClass_of_methodNamed B.named
  have hlocks := B.notSynchronized
  have hD := hD0.self (sz := sz)
  generalize hAe : va_A [(h0, .inr (4, [.int 128, .int 0, .ref ap, .int 0, .int 0, .int 0, .int 0]))] sz = A at hD ⊢
  have hA : ∀ q : Nat, s.heap.size ≤ q → A q := fun q h => by rw [← hAe]; exact Or.inr (by omega)
  have hS0 : ∀ G : Heap, s.heap = G → va_S A s.heap G [] := fun G h => by subst h; exact va_S.rf
  generalize hHe : s.heap = H at hP ⊢
  have hS := hS0 H hHe
  have hP : va_P (dC, dI) vwCl [(h0, .inr (4, [.int 128, .int 0, .ref ap, .int 0, .int 0, .int 0, .int 0]))] H := hP
  have hD : va_D A [(h0, .inr (4, [.int 128, .int 0, .ref ap, .int 0, .int 0, .int 0, .int 0]))] := hD
  have hK : va_K (dC, dI) vwCl [] s := hK
  have hl := lv_entry ([.ref h0]) (n := 1) (Nat.le_of_ble_eq_true rfl)
  rw [lg_entry_eq]
  generalize (lg_sl ([.ref h0]) ++ List.replicate (1 - (lg_sl ([.ref h0])).length) Slot.unset).toArray = ls at hl ⊢
  have hl : lv_has ls 1 [(0, .ref h0)] := hl
  refine lv_aload_n hx hb dX5_goOn_0 rfl (lv_at hl 0 rfl) ?_
  refine va_get (D := (dC, dI)) (ci := 4) (v := .int 0) (C := RX5) (T := TX5) (N := 7) hx hb hts (by decide +kernel) hown hK hP 0 rfl rfl 5 (by decide) (hts (.fieldLink RX5 20 "UnibusMachine$Printer" "left" "I") (by decide +kernel)) (fun _ h9 => h9) rfl dX5_goOn_1 ?_
  refine lv_if_eq (tgt := 14) hx hb dX5_goOn_4 (by decide) (fun c1 => ?_) (fun c1 => ?_)
  · skip
    have hP9 := hP.sub (ws' := [(h0, .inr (4, [.int 128, .int 0, .ref ap, .int 0, .int 0, .int 0, .int 0]))]) [0] rfl
    have hD9 := hD.sub (ws' := [(h0, .inr (4, [.int 128, .int 0, .ref ap, .int 0, .int 0, .int 0, .int 0]))]) [0] (by decide) rfl
    have hK9 := hK.sub (tys' := []) [] rfl
    exact W.vret hx hb hr (fun t ht hW => ⟨⟨(), rfl, trivial, by rw [ht]; exact hP9, va_K.moved hW.alike hK9, hD9⟩, hS.F ht⟩) hS.2.2 dX5_goOn_14
  · exact absurd c1 (by decide)
set_option maxHeartbeats 4000000 in
set_option maxRecDepth 100000 in
theorem c_goOnD (l : Launch) (dC : Nat → ClassId) (dI : Nat → Nat → Nat) (h0 : Nat) (aw : Nat) (am : Nat) (sz : Nat) : Met l yX1_goOn wsX1_goOn ({ frames := 0, cells := 0, slots := 0, locals := 0 } : Room) (va_Pc [.ref h0, .ref am] (fun U => U.heap.size = sz ∧ va_P (dC, dI) vwCl [(h0, .inr (1, [.int 128, .int 0, .ref aw, .int 0, .int 0, .int 0, .int 0, .int 0, .int 0, .int 0]))] U.heap ∧ va_K (dC, dI) vwCl [] U ∧ va_D (fun _ => True) [(h0, .inr (1, [.int 128, .int 0, .ref aw, .int 0, .int 0, .int 0, .int 0, .int 0, .int 0, .int 0]))])) (va_Qv (fun (u : Unit) => True) (fun (u : Unit) (t : State) => va_P (dC, dI) vwCl [(h0, .inr (1, [.int 128, .int 0, .ref aw, .int 0, .int 0, .int 0, .int 0, .int 0, .int 0, .int 0]))] t.heap ∧ va_K (dC, dI) vwCl [] t ∧ va_D (va_A [(h0, .inr (1, [.int 128, .int 0, .ref aw, .int 0, .int 0, .int 0, .int 0, .int 0, .int 0, .int 0]))] sz) [(h0, .inr (1, [.int 128, .int 0, .ref aw, .int 0, .int 0, .int 0, .int 0, .int 0, .int 0, .int 0]))]) (va_A [(h0, .inr (1, [.int 128, .int 0, .ref aw, .int 0, .int 0, .int 0, .int 0, .int 0, .int 0, .int 0]))] sz)) 0 0 (va_A [(h0, .inr (1, [.int 128, .int 0, .ref aw, .int 0, .int 0, .int 0, .int 0, .int 0, .int 0, .int 0]))] sz) := by
  refine Met.ofW (cc := cX1_goOn) (maxL := 2) (ret := none) (by decide) rfl ?_
  intro p e s m args below meth c s₁ B hml hv
  obtain ⟨rfl, hsz, hP, hK, hD0⟩ := hv
  have hx := B.exec
  have hb := B.bytes
  have hr := B.returns
  have hts := atoms_spec (ws := wsX1_goOn) B.pre
  have hown : s.vm.findClass RX1 = some m.cls := findClass_of_methodNamed B.named
  have hlocks := B.notSynchronized
  have hD := hD0.self (sz := sz)
  generalize hAe : va_A [(h0, .inr (1, [.int 128, .int 0, .ref aw, .int 0, .int 0, .int 0, .int 0, .int 0, .int 0, .int 0]))] sz = A at hD ⊢
  have hA : ∀ q : Nat, s.heap.size ≤ q → A q := fun q h => by rw [← hAe]; exact Or.inr (by omega)
  have hS0 : ∀ G : Heap, s.heap = G → va_S A s.heap G [] := fun G h => by subst h; exact va_S.rf
  generalize hHe : s.heap = H at hP ⊢
  have hS := hS0 H hHe
  have hP : va_P (dC, dI) vwCl [(h0, .inr (1, [.int 128, .int 0, .ref aw, .int 0, .int 0, .int 0, .int 0, .int 0, .int 0, .int 0]))] H := hP
  have hD : va_D A [(h0, .inr (1, [.int 128, .int 0, .ref aw, .int 0, .int 0, .int 0, .int 0, .int 0, .int 0, .int 0]))] := hD
  have hK : va_K (dC, dI) vwCl [] s := hK
  have hl := lv_entry ([.ref h0, .ref am]) (n := 2) (Nat.le_of_ble_eq_true rfl)
  rw [lg_entry_eq]
  generalize (lg_sl ([.ref h0, .ref am]) ++ List.replicate (2 - (lg_sl ([.ref h0, .ref am])).length) Slot.unset).toArray = ls at hl ⊢
  have hl : lv_has ls 2 [(0, .ref h0), (1, .ref am)] := hl
  refine lv_aload_n hx hb dX1_goOn_0 rfl (lv_at hl 0 rfl) ?_
  refine va_get (D := (dC, dI)) (ci := 1) (v := .int 0) (C := RX1) (T := TX1) (N := 10) hx hb hts (by decide +kernel) hown hK hP 0 rfl rfl 8 (by decide) (hts (.fieldLink RX1 29 "UnibusMachine$Drive" "left" "I") (by decide +kernel)) (fun _ h9 => h9) rfl dX1_goOn_1 ?_
  refine lv_if_eq (tgt := 14) hx hb dX1_goOn_4 (by decide) (fun c1 => ?_) (fun c1 => ?_)
  · skip
    have hP9 := hP.sub (ws' := [(h0, .inr (1, [.int 128, .int 0, .ref aw, .int 0, .int 0, .int 0, .int 0, .int 0, .int 0, .int 0]))]) [0] rfl
    have hD9 := hD.sub (ws' := [(h0, .inr (1, [.int 128, .int 0, .ref aw, .int 0, .int 0, .int 0, .int 0, .int 0, .int 0, .int 0]))]) [0] (by decide) rfl
    have hK9 := hK.sub (tys' := []) [] rfl
    exact W.vret hx hb hr (fun t ht hW => ⟨⟨(), rfl, trivial, by rw [ht]; exact hP9, va_K.moved hW.alike hK9, hD9⟩, hS.F ht⟩) hS.2.2 dX1_goOn_14
  · exact absurd c1 (by decide)
set_option maxHeartbeats 4000000 in
set_option maxRecDepth 100000 in
theorem c_goOn (l : Launch) (dC : Nat → ClassId) (dI : Nat → Nat → Nat) (h0 : Nat) (am : Nat) (oM : Nat) (oS : Nat) (oK : Nat) (oL : Nat) (oD : Nat) (ap : Nat) (aw : Nat) (sz : Nat) : Met l yX0_goOn wsX0_goOn ({ frames := 1, cells := 0, slots := 0, locals := 23 } : Room) (va_Pc [.ref h0] (fun U => U.heap.size = sz ∧ va_P (dC, dI) vwCl [(h0, .inr (0, [.ref am, .ref oM, .ref oS, .ref oK, .ref oL, .ref oD])), (oL, .inr (4, [.int 128, .int 0, .ref ap, .int 0, .int 0, .int 0, .int 0])), (oD, .inr (1, [.int 128, .int 0, .ref aw, .int 0, .int 0, .int 0, .int 0, .int 0, .int 0, .int 0]))] U.heap ∧ va_K (dC, dI) vwCl [] U ∧ va_D (fun _ => True) [(h0, .inr (0, [.ref am, .ref oM, .ref oS, .ref oK, .ref oL, .ref oD])), (oL, .inr (4, [.int 128, .int 0, .ref ap, .int 0, .int 0, .int 0, .int 0])), (oD, .inr (1, [.int 128, .int 0, .ref aw, .int 0, .int 0, .int 0, .int 0, .int 0, .int 0, .int 0]))])) (va_Qv (fun (u : Unit) => True) (fun (u : Unit) (t : State) => va_P (dC, dI) vwCl [(h0, .inr (0, [.ref am, .ref oM, .ref oS, .ref oK, .ref oL, .ref oD])), (oL, .inr (4, [.int 128, .int 0, .ref ap, .int 0, .int 0, .int 0, .int 0])), (oD, .inr (1, [.int 128, .int 0, .ref aw, .int 0, .int 0, .int 0, .int 0, .int 0, .int 0, .int 0]))] t.heap ∧ va_K (dC, dI) vwCl [] t ∧ va_D (va_A [(h0, .inr (0, [.ref am, .ref oM, .ref oS, .ref oK, .ref oL, .ref oD])), (oL, .inr (4, [.int 128, .int 0, .ref ap, .int 0, .int 0, .int 0, .int 0])), (oD, .inr (1, [.int 128, .int 0, .ref aw, .int 0, .int 0, .int 0, .int 0, .int 0, .int 0, .int 0]))] sz) [(h0, .inr (0, [.ref am, .ref oM, .ref oS, .ref oK, .ref oL, .ref oD])), (oL, .inr (4, [.int 128, .int 0, .ref ap, .int 0, .int 0, .int 0, .int 0])), (oD, .inr (1, [.int 128, .int 0, .ref aw, .int 0, .int 0, .int 0, .int 0, .int 0, .int 0, .int 0]))]) (va_A [(h0, .inr (0, [.ref am, .ref oM, .ref oS, .ref oK, .ref oL, .ref oD])), (oL, .inr (4, [.int 128, .int 0, .ref ap, .int 0, .int 0, .int 0, .int 0])), (oD, .inr (1, [.int 128, .int 0, .ref aw, .int 0, .int 0, .int 0, .int 0, .int 0, .int 0, .int 0]))] sz)) 0 0 (va_A [(h0, .inr (0, [.ref am, .ref oM, .ref oS, .ref oK, .ref oL, .ref oD])), (oL, .inr (4, [.int 128, .int 0, .ref ap, .int 0, .int 0, .int 0, .int 0])), (oD, .inr (1, [.int 128, .int 0, .ref aw, .int 0, .int 0, .int 0, .int 0, .int 0, .int 0, .int 0]))] sz) := by
  refine Met.ofW (cc := cX0_goOn) (maxL := 1) (ret := none) (by decide) rfl ?_
  intro p e s m args below meth c s₁ B hml hv
  obtain ⟨rfl, hsz, hP, hK, hD0⟩ := hv
  have hx := B.exec
  have hb := B.bytes
  have hr := B.returns
  have hts := atoms_spec (ws := wsX0_goOn) B.pre
  have hown : s.vm.findClass RX0 = some m.cls := findClass_of_methodNamed B.named
  have hlocks := B.notSynchronized
  have hD := hD0.self (sz := sz)
  generalize hAe : va_A [(h0, .inr (0, [.ref am, .ref oM, .ref oS, .ref oK, .ref oL, .ref oD])), (oL, .inr (4, [.int 128, .int 0, .ref ap, .int 0, .int 0, .int 0, .int 0])), (oD, .inr (1, [.int 128, .int 0, .ref aw, .int 0, .int 0, .int 0, .int 0, .int 0, .int 0, .int 0]))] sz = A at hD ⊢
  have hA : ∀ q : Nat, s.heap.size ≤ q → A q := fun q h => by rw [← hAe]; exact Or.inr (by omega)
  have hS0 : ∀ G : Heap, s.heap = G → va_S A s.heap G [] := fun G h => by subst h; exact va_S.rf
  generalize hHe : s.heap = H at hP ⊢
  have hS := hS0 H hHe
  have hP : va_P (dC, dI) vwCl [(h0, .inr (0, [.ref am, .ref oM, .ref oS, .ref oK, .ref oL, .ref oD])), (oL, .inr (4, [.int 128, .int 0, .ref ap, .int 0, .int 0, .int 0, .int 0])), (oD, .inr (1, [.int 128, .int 0, .ref aw, .int 0, .int 0, .int 0, .int 0, .int 0, .int 0, .int 0]))] H := hP
  have hD : va_D A [(h0, .inr (0, [.ref am, .ref oM, .ref oS, .ref oK, .ref oL, .ref oD])), (oL, .inr (4, [.int 128, .int 0, .ref ap, .int 0, .int 0, .int 0, .int 0])), (oD, .inr (1, [.int 128, .int 0, .ref aw, .int 0, .int 0, .int 0, .int 0, .int 0, .int 0, .int 0]))] := hD
  have hK : va_K (dC, dI) vwCl [] s := hK
  have hl := lv_entry ([.ref h0]) (n := 1) (Nat.le_of_ble_eq_true rfl)
  rw [lg_entry_eq]
  generalize (lg_sl ([.ref h0]) ++ List.replicate (1 - (lg_sl ([.ref h0])).length) Slot.unset).toArray = ls at hl ⊢
  have hl : lv_has ls 1 [(0, .ref h0)] := hl
  refine lv_aload_n hx hb dX0_goOn_0 rfl (lv_at hl 0 rfl) ?_
  refine va_get (D := (dC, dI)) (ci := 0) (v := .ref oL) (C := RX0) (T := TX0) (N := 6) hx hb hts (by decide +kernel) hown hK hP 0 rfl rfl 4 (by decide) (hts (.fieldLink RX0 37 "UnibusMachine$Bus" "printer" "LUnibusMachine$Printer;") (by decide +kernel)) (fun _ h9 => h9) rfl dX0_goOn_1 ?_
  have hPc := hP.sub (ws' := [(oL, .inr (4, [.int 128, .int 0, .ref ap, .int 0, .int 0, .int 0, .int 0]))]) [1] rfl
  have hDc := hD.sub (ws' := [(oL, .inr (4, [.int 128, .int 0, .ref ap, .int 0, .int 0, .int 0, .int 0]))]) [1] (by decide) rfl
  have hKc := hK.sub (tys' := []) [] rfl
  have hFc := va_free (wc := [(oL, .inr (4, [.int 128, .int 0, .ref ap, .int 0, .int 0, .int 0, .int 0]))]) hD hS hA [1] rfl
  refine va_callv (va_runV (As := []) (rest := []) ⟨hx, hb, hml, hown, hts⟩ (c_goOnP l dC dI oL ap H.size) (cwV 0 hts gX0_goOn_X5_goOn rfl rfl rfl (by decide +kernel) ⟨Nat.le_of_ble_eq_true rfl, Nat.le_of_ble_eq_true rfl⟩) ⟨fun a U g mk q => by obtain ⟨q0, q1, qP, qK, qD⟩ := q; exact ⟨q0, q1, qP, va_K.moved (u := U) (U := U.calling g mk a) (Vm.Alike.refl U.vm) qK, qD⟩, va_recv hKc hPc (ci := 4) (q0 := 0) rfl rfl, fun U hU hW => ⟨rfl, by rw [hU], by rw [hU]; exact hPc, va_K.moved hW.alike hKc, hDc.weaken (fun _ _ _ _ => trivial)⟩⟩ rfl rfl hl.1 rfl (lv_room (Nat.le_of_ble_eq_true rfl)) dX0_goOn_4 ⟨Nat.le_of_ble_eq_true rfl, Nat.le_of_ble_eq_true rfl⟩) hS (fun q _ h => hFc q h) hFc (fun u2 t H1 locs ht hvm hw hB hz1 hk1 hS => ?_)
  obtain ⟨hP1, hK1, hD1⟩ := hB
  rw [ht] at hP1
  have hK1 := va_K.moved hvm.symm hK1
  try dsimp only at hw
  obtain ⟨hP, hD⟩ := va_join (wr := [(h0, .inr (0, [.ref am, .ref oM, .ref oS, .ref oK, .ref oL, .ref oD])), (oD, .inr (1, [.int 128, .int 0, .ref aw, .int 0, .int 0, .int 0, .int 0, .int 0, .int 0, .int 0]))]) (w1 := [(oL, .inr (4, [.int 128, .int 0, .ref ap, .int 0, .int 0, .int 0, .int 0]))]) hP hD [1] [0, 2] rfl rfl (by decide) (by decide) hk1 hFc hP1 hD1
  have hK := (hK.sub (tys' := []) [] rfl).app hK1
  generalize H1 = H at hP hS ⊢
  have hP : va_P (dC, dI) vwCl [(h0, .inr (0, [.ref am, .ref oM, .ref oS, .ref oK, .ref oL, .ref oD])), (oD, .inr (1, [.int 128, .int 0, .ref aw, .int 0, .int 0, .int 0, .int 0, .int 0, .int 0, .int 0])), (oL, .inr (4, [.int 128, .int 0, .ref ap, .int 0, .int 0, .int 0, .int 0]))] H := hP
  have hD : va_D A [(h0, .inr (0, [.ref am, .ref oM, .ref oS, .ref oK, .ref oL, .ref oD])), (oD, .inr (1, [.int 128, .int 0, .ref aw, .int 0, .int 0, .int 0, .int 0, .int 0, .int 0, .int 0])), (oL, .inr (4, [.int 128, .int 0, .ref ap, .int 0, .int 0, .int 0, .int 0]))] := hD
  have hK : va_K (dC, dI) vwCl [] s := hK
  refine W.widen (k := 0) (n := 0) (Nat.le_of_ble_eq_true rfl) (Nat.le_of_ble_eq_true rfl) ?_
  refine lv_aload_n hx hb dX0_goOn_7 rfl (lv_at hl 0 rfl) ?_
  refine va_get (D := (dC, dI)) (ci := 0) (v := .ref oD) (C := RX0) (T := TX0) (N := 6) hx hb hts (by decide +kernel) hown hK hP 0 rfl rfl 5 (by decide) (hts (.fieldLink RX0 44 "UnibusMachine$Bus" "drive" "LUnibusMachine$Drive;") (by decide +kernel)) (fun _ h9 => h9) rfl dX0_goOn_8 ?_
  refine lv_aload_n hx hb dX0_goOn_11 rfl (lv_at hl 0 rfl) ?_
  refine va_get (D := (dC, dI)) (ci := 0) (v := .ref am) (C := RX0) (T := TX0) (N := 6) hx hb hts (by decide +kernel) hown hK hP 0 rfl rfl 0 (by decide) (hts (.fieldLink RX0 9 "UnibusMachine$Bus" "memory" "[I") (by decide +kernel)) (fun _ h9 => h9) rfl dX0_goOn_12 ?_
  have hPc := hP.sub (ws' := [(oD, .inr (1, [.int 128, .int 0, .ref aw, .int 0, .int 0, .int 0, .int 0, .int 0, .int 0, .int 0]))]) [1] rfl
  have hDc := hD.sub (ws' := [(oD, .inr (1, [.int 128, .int 0, .ref aw, .int 0, .int 0, .int 0, .int 0, .int 0, .int 0, .int 0]))]) [1] (by decide) rfl
  have hKc := hK.sub (tys' := []) [] rfl
  have hFc := va_free (wc := [(oD, .inr (1, [.int 128, .int 0, .ref aw, .int 0, .int 0, .int 0, .int 0, .int 0, .int 0, .int 0]))]) hD hS hA [1] rfl
  refine va_callv (va_runV (As := [.ref am]) (rest := []) ⟨hx, hb, hml, hown, hts⟩ (c_goOnD l dC dI oD aw am H.size) (cwV 1 hts gX0_goOn_X1_goOn rfl rfl rfl (by decide +kernel) ⟨Nat.le_of_ble_eq_true rfl, Nat.le_of_ble_eq_true rfl⟩) ⟨fun a U g mk q => by obtain ⟨q0, q1, qP, qK, qD⟩ := q; exact ⟨q0, q1, qP, va_K.moved (u := U) (U := U.calling g mk a) (Vm.Alike.refl U.vm) qK, qD⟩, va_recv hKc hPc (ci := 1) (q0 := 0) rfl rfl, fun U hU hW => ⟨rfl, by rw [hU], by rw [hU]; exact hPc, va_K.moved hW.alike hKc, hDc.weaken (fun _ _ _ _ => trivial)⟩⟩ rfl rfl hl.1 rfl (lv_room (Nat.le_of_ble_eq_true rfl)) dX0_goOn_15 ⟨Nat.le_of_ble_eq_true rfl, Nat.le_of_ble_eq_true rfl⟩) hS (fun q _ h => hFc q h) hFc (fun u4 t H1 locs ht hvm hw hB hz1 hk1 hS => ?_)
  obtain ⟨hP1, hK1, hD1⟩ := hB
  rw [ht] at hP1
  have hK1 := va_K.moved hvm.symm hK1
  try dsimp only at hw
  obtain ⟨hP, hD⟩ := va_join (wr := [(h0, .inr (0, [.ref am, .ref oM, .ref oS, .ref oK, .ref oL, .ref oD])), (oL, .inr (4, [.int 128, .int 0, .ref ap, .int 0, .int 0, .int 0, .int 0]))]) (w1 := [(oD, .inr (1, [.int 128, .int 0, .ref aw, .int 0, .int 0, .int 0, .int 0, .int 0, .int 0, .int 0]))]) hP hD [1] [0, 2] rfl rfl (by decide) (by decide) hk1 hFc hP1 hD1
  have hK := (hK.sub (tys' := []) [] rfl).app hK1
  generalize H1 = H at hP hS ⊢
  have hP : va_P (dC, dI) vwCl [(h0, .inr (0, [.ref am, .ref oM, .ref oS, .ref oK, .ref oL, .ref oD])), (oL, .inr (4, [.int 128, .int 0, .ref ap, .int 0, .int 0, .int 0, .int 0])), (oD, .inr (1, [.int 128, .int 0, .ref aw, .int 0, .int 0, .int 0, .int 0, .int 0, .int 0, .int 0]))] H := hP
  have hD : va_D A [(h0, .inr (0, [.ref am, .ref oM, .ref oS, .ref oK, .ref oL, .ref oD])), (oL, .inr (4, [.int 128, .int 0, .ref ap, .int 0, .int 0, .int 0, .int 0])), (oD, .inr (1, [.int 128, .int 0, .ref aw, .int 0, .int 0, .int 0, .int 0, .int 0, .int 0, .int 0]))] := hD
  have hK : va_K (dC, dI) vwCl [] s := hK
  refine W.widen (k := 0) (n := 0) (Nat.le_of_ble_eq_true rfl) (Nat.le_of_ble_eq_true rfl) ?_
  have hP9 := hP.sub (ws' := [(h0, .inr (0, [.ref am, .ref oM, .ref oS, .ref oK, .ref oL, .ref oD])), (oL, .inr (4, [.int 128, .int 0, .ref ap, .int 0, .int 0, .int 0, .int 0])), (oD, .inr (1, [.int 128, .int 0, .ref aw, .int 0, .int 0, .int 0, .int 0, .int 0, .int 0, .int 0]))]) [0, 1, 2] rfl
  have hD9 := hD.sub (ws' := [(h0, .inr (0, [.ref am, .ref oM, .ref oS, .ref oK, .ref oL, .ref oD])), (oL, .inr (4, [.int 128, .int 0, .ref ap, .int 0, .int 0, .int 0, .int 0])), (oD, .inr (1, [.int 128, .int 0, .ref aw, .int 0, .int 0, .int 0, .int 0, .int 0, .int 0, .int 0]))]) [0, 1, 2] (by decide) rfl
  have hK9 := hK.sub (tys' := []) [] rfl
  exact W.vret hx hb hr (fun t ht hW => ⟨⟨(), rfl, trivial, by rw [ht]; exact hP9, va_K.moved hW.alike hK9, hD9⟩, hS.F ht⟩) hS.2.2 dX0_goOn_18
set_option maxHeartbeats 4000000 in
set_option maxRecDepth 100000 in
theorem c_look (l : Launch) (dC : Nat → ClassId) (dI : Nat → Nat → Nat) (h0 : Nat) (ar : Nat) (oB : Nat) (oS : Nat) (ve : Int32) (am : Nat) (oM : Nat) (oK : Nat) (oL : Nat) (oD : Nat) (ap : Nat) (aw : Nat) (sz : Nat) : Met l yX6_lookForInterrupt wsX6_lookForInterrupt ({ frames := 0, cells := 0, slots := 0, locals := 0 } : Room) (va_Pc [.ref h0] (fun U => U.heap.size = sz ∧ va_P (dC, dI) vwCl [(h0, .inr (5, [.ref ar, .ref oB, .ref oS, .int 0, .int 0, .int 0, .int ve, .int 0, .int 0])), (oB, .inr (0, [.ref am, .ref oM, .ref oS, .ref oK, .ref oL, .ref oD])), (oS, .inr (6, [.int 224, .int (-1)])), (oD, .inr (1, [.int 128, .int 0, .ref aw, .int 0, .int 0, .int 0, .int 0, .int 0, .int 0, .int 0])), (oK, .inr (2, [.int 0, .int 0, .int 0])), (oL, .inr (4, [.int 128, .int 0, .ref ap, .int 0, .int 0, .int 0, .int 0]))] U.heap ∧ va_K (dC, dI) vwCl [] U ∧ va_D (fun _ => True) [(h0, .inr (5, [.ref ar, .ref oB, .ref oS, .int 0, .int 0, .int 0, .int ve, .int 0, .int 0])), (oB, .inr (0, [.ref am, .ref oM, .ref oS, .ref oK, .ref oL, .ref oD])), (oS, .inr (6, [.int 224, .int (-1)])), (oD, .inr (1, [.int 128, .int 0, .ref aw, .int 0, .int 0, .int 0, .int 0, .int 0, .int 0, .int 0])), (oK, .inr (2, [.int 0, .int 0, .int 0])), (oL, .inr (4, [.int 128, .int 0, .ref ap, .int 0, .int 0, .int 0, .int 0]))])) (va_Qv (fun (u : Unit) => True) (fun (u : Unit) (t : State) => va_P (dC, dI) vwCl [(h0, .inr (5, [.ref ar, .ref oB, .ref oS, .int 0, .int 0, .int 0, .int ve, .int 0, .int 0])), (oB, .inr (0, [.ref am, .ref oM, .ref oS, .ref oK, .ref oL, .ref oD])), (oS, .inr (6, [.int 224, .int (-1)])), (oD, .inr (1, [.int 128, .int 0, .ref aw, .int 0, .int 0, .int 0, .int 0, .int 0, .int 0, .int 0])), (oK, .inr (2, [.int 0, .int 0, .int 0])), (oL, .inr (4, [.int 128, .int 0, .ref ap, .int 0, .int 0, .int 0, .int 0]))] t.heap ∧ va_K (dC, dI) vwCl [] t ∧ va_D (va_A [(h0, .inr (5, [.ref ar, .ref oB, .ref oS, .int 0, .int 0, .int 0, .int ve, .int 0, .int 0])), (oB, .inr (0, [.ref am, .ref oM, .ref oS, .ref oK, .ref oL, .ref oD])), (oS, .inr (6, [.int 224, .int (-1)])), (oD, .inr (1, [.int 128, .int 0, .ref aw, .int 0, .int 0, .int 0, .int 0, .int 0, .int 0, .int 0])), (oK, .inr (2, [.int 0, .int 0, .int 0])), (oL, .inr (4, [.int 128, .int 0, .ref ap, .int 0, .int 0, .int 0, .int 0]))] sz) [(h0, .inr (5, [.ref ar, .ref oB, .ref oS, .int 0, .int 0, .int 0, .int ve, .int 0, .int 0])), (oB, .inr (0, [.ref am, .ref oM, .ref oS, .ref oK, .ref oL, .ref oD])), (oS, .inr (6, [.int 224, .int (-1)])), (oD, .inr (1, [.int 128, .int 0, .ref aw, .int 0, .int 0, .int 0, .int 0, .int 0, .int 0, .int 0])), (oK, .inr (2, [.int 0, .int 0, .int 0])), (oL, .inr (4, [.int 128, .int 0, .ref ap, .int 0, .int 0, .int 0, .int 0]))]) (va_A [(h0, .inr (5, [.ref ar, .ref oB, .ref oS, .int 0, .int 0, .int 0, .int ve, .int 0, .int 0])), (oB, .inr (0, [.ref am, .ref oM, .ref oS, .ref oK, .ref oL, .ref oD])), (oS, .inr (6, [.int 224, .int (-1)])), (oD, .inr (1, [.int 128, .int 0, .ref aw, .int 0, .int 0, .int 0, .int 0, .int 0, .int 0, .int 0])), (oK, .inr (2, [.int 0, .int 0, .int 0])), (oL, .inr (4, [.int 128, .int 0, .ref ap, .int 0, .int 0, .int 0, .int 0]))] sz)) 0 0 (va_A [(h0, .inr (5, [.ref ar, .ref oB, .ref oS, .int 0, .int 0, .int 0, .int ve, .int 0, .int 0])), (oB, .inr (0, [.ref am, .ref oM, .ref oS, .ref oK, .ref oL, .ref oD])), (oS, .inr (6, [.int 224, .int (-1)])), (oD, .inr (1, [.int 128, .int 0, .ref aw, .int 0, .int 0, .int 0, .int 0, .int 0, .int 0, .int 0])), (oK, .inr (2, [.int 0, .int 0, .int 0])), (oL, .inr (4, [.int 128, .int 0, .ref ap, .int 0, .int 0, .int 0, .int 0]))] sz) := by
  refine Met.ofW (cc := cX6_lookForInterrupt) (maxL := 4) (ret := none) (by decide) rfl ?_
  intro p e s m args below meth c s₁ B hml hv
  obtain ⟨rfl, hsz, hP, hK, hD0⟩ := hv
  have hx := B.exec
  have hb := B.bytes
  have hr := B.returns
  have hts := atoms_spec (ws := wsX6_lookForInterrupt) B.pre
  have hown : s.vm.findClass RX6 = some m.cls := findClass_of_methodNamed B.named
  have hlocks := B.notSynchronized
  have hD := hD0.self (sz := sz)
  generalize hAe : va_A [(h0, .inr (5, [.ref ar, .ref oB, .ref oS, .int 0, .int 0, .int 0, .int ve, .int 0, .int 0])), (oB, .inr (0, [.ref am, .ref oM, .ref oS, .ref oK, .ref oL, .ref oD])), (oS, .inr (6, [.int 224, .int (-1)])), (oD, .inr (1, [.int 128, .int 0, .ref aw, .int 0, .int 0, .int 0, .int 0, .int 0, .int 0, .int 0])), (oK, .inr (2, [.int 0, .int 0, .int 0])), (oL, .inr (4, [.int 128, .int 0, .ref ap, .int 0, .int 0, .int 0, .int 0]))] sz = A at hD ⊢
  have hA : ∀ q : Nat, s.heap.size ≤ q → A q := fun q h => by rw [← hAe]; exact Or.inr (by omega)
  have hS0 : ∀ G : Heap, s.heap = G → va_S A s.heap G [] := fun G h => by subst h; exact va_S.rf
  generalize hHe : s.heap = H at hP ⊢
  have hS := hS0 H hHe
  have hP : va_P (dC, dI) vwCl [(h0, .inr (5, [.ref ar, .ref oB, .ref oS, .int 0, .int 0, .int 0, .int ve, .int 0, .int 0])), (oB, .inr (0, [.ref am, .ref oM, .ref oS, .ref oK, .ref oL, .ref oD])), (oS, .inr (6, [.int 224, .int (-1)])), (oD, .inr (1, [.int 128, .int 0, .ref aw, .int 0, .int 0, .int 0, .int 0, .int 0, .int 0, .int 0])), (oK, .inr (2, [.int 0, .int 0, .int 0])), (oL, .inr (4, [.int 128, .int 0, .ref ap, .int 0, .int 0, .int 0, .int 0]))] H := hP
  have hD : va_D A [(h0, .inr (5, [.ref ar, .ref oB, .ref oS, .int 0, .int 0, .int 0, .int ve, .int 0, .int 0])), (oB, .inr (0, [.ref am, .ref oM, .ref oS, .ref oK, .ref oL, .ref oD])), (oS, .inr (6, [.int 224, .int (-1)])), (oD, .inr (1, [.int 128, .int 0, .ref aw, .int 0, .int 0, .int 0, .int 0, .int 0, .int 0, .int 0])), (oK, .inr (2, [.int 0, .int 0, .int 0])), (oL, .inr (4, [.int 128, .int 0, .ref ap, .int 0, .int 0, .int 0, .int 0]))] := hD
  have hK : va_K (dC, dI) vwCl [] s := hK
  have hl := lv_entry ([.ref h0]) (n := 4) (Nat.le_of_ble_eq_true rfl)
  rw [lg_entry_eq]
  generalize (lg_sl ([.ref h0]) ++ List.replicate (4 - (lg_sl ([.ref h0])).length) Slot.unset).toArray = ls at hl ⊢
  have hl : lv_has ls 4 [(0, .ref h0)] := hl
  refine lv_aload_n hx hb dX6_lookForInterrupt_0 rfl (lv_at hl 0 rfl) ?_
  refine va_get (D := (dC, dI)) (ci := 5) (v := .ref oS) (C := RX6) (T := TX6) (N := 9) hx hb hts (by decide +kernel) hown hK hP 0 rfl rfl 2 (by decide) (hts (.fieldLink RX6 43 "UnibusMachine$Processor" "status" "LUnibusMachine$Status;") (by decide +kernel)) (fun _ h9 => h9) rfl dX6_lookForInterrupt_1 ?_
  refine va_get (D := (dC, dI)) (ci := 6) (v := .int 224) (C := RX7) (T := TX7) (N := 2) hx hb hts (by decide +kernel) hown hK hP 2 rfl rfl 0 (by decide) (hts (.fieldLink RX6 44 "UnibusMachine$Status" "now" "I") (by decide +kernel)) (fun _ h9 => h9) rfl dX6_lookForInterrupt_4 ?_
  refine lv_iconst (v := 5) hx hb dX6_lookForInterrupt_7 (by decide) ?_
  refine lv_ishr hx hb dX6_lookForInterrupt_8 ?_
  refine lv_topi (fun y1 ey1 => ?_)
  obtain rfl : y1 = 7 := by rw [ey1]; decide
  refine lv_bipush (v := 7) hx hb dX6_lookForInterrupt_9 (by decide) ?_
  refine lv_iand hx hb dX6_lookForInterrupt_11 ?_
  refine lv_topi (fun y2 ey2 => ?_)
  obtain rfl : y2 = 7 := by rw [ey2]; decide
  refine lv_istore_n (lv' := [(1, .int 7), (0, .ref h0)]) hx hb dX6_lookForInterrupt_12 rfl hl (by decide) rfl (fun ls hl => ?_)
  refine lv_aload_n hx hb dX6_lookForInterrupt_13 rfl (lv_at hl 1 rfl) ?_
  refine va_get (D := (dC, dI)) (ci := 5) (v := .ref oB) (C := RX6) (T := TX6) (N := 9) hx hb hts (by decide +kernel) hown hK hP 0 rfl rfl 1 (by decide) (hts (.fieldLink RX6 33 "UnibusMachine$Processor" "bus" "LUnibusMachine$Bus;") (by decide +kernel)) (fun _ h9 => h9) rfl dX6_lookForInterrupt_14 ?_
  refine va_get (D := (dC, dI)) (ci := 0) (v := .ref oD) (C := RX0) (T := TX0) (N := 6) hx hb hts (by decide +kernel) hown hK hP 1 rfl rfl 5 (by decide) (hts (.fieldLink RX6 79 "UnibusMachine$Bus" "drive" "LUnibusMachine$Drive;") (by decide +kernel)) (fun _ h9 => h9) rfl dX6_lookForInterrupt_17 ?_
  refine va_get (D := (dC, dI)) (ci := 1) (v := .int 0) (C := RX1) (T := TX1) (N := 10) hx hb hts (by decide +kernel) hown hK hP 3 rfl rfl 1 (by decide) (hts (.fieldLink RX6 83 "UnibusMachine$Drive" "wanting" "Z") (by decide +kernel)) (u_same (hts (.sameField "UnibusMachine$Drive" "UnibusMachine$Line" "wanting" "Z") (by decide +kernel))) rfl dX6_lookForInterrupt_20 ?_
  refine lv_if_eq (tgt := 46) hx hb dX6_lookForInterrupt_23 (by decide) (fun c3 => ?_) (fun c3 => ?_)
  · skip
    refine lv_aload_n hx hb dX6_lookForInterrupt_46 rfl (lv_at hl 1 rfl) ?_
    refine va_get (D := (dC, dI)) (ci := 5) (v := .ref oB) (C := RX6) (T := TX6) (N := 9) hx hb hts (by decide +kernel) hown hK hP 0 rfl rfl 1 (by decide) (hts (.fieldLink RX6 33 "UnibusMachine$Processor" "bus" "LUnibusMachine$Bus;") (by decide +kernel)) (fun _ h9 => h9) rfl dX6_lookForInterrupt_47 ?_
    refine va_get (D := (dC, dI)) (ci := 0) (v := .ref oK) (C := RX0) (T := TX0) (N := 6) hx hb hts (by decide +kernel) hown hK hP 1 rfl rfl 3 (by decide) (hts (.fieldLink RX6 88 "UnibusMachine$Bus" "keyboard" "LUnibusMachine$Keyboard;") (by decide +kernel)) (fun _ h9 => h9) rfl dX6_lookForInterrupt_50 ?_
    refine va_get (D := (dC, dI)) (ci := 2) (v := .int 0) (C := RX2) (T := TX2) (N := 3) hx hb hts (by decide +kernel) hown hK hP 4 rfl rfl 1 (by decide) (hts (.fieldLink RX6 92 "UnibusMachine$Keyboard" "wanting" "Z") (by decide +kernel)) (u_same (hts (.sameField "UnibusMachine$Keyboard" "UnibusMachine$Line" "wanting" "Z") (by decide +kernel))) rfl dX6_lookForInterrupt_53 ?_
    refine lv_if_eq (tgt := 78) hx hb dX6_lookForInterrupt_56 (by decide) (fun c4 => ?_) (fun c4 => ?_)
    · skip
      refine lv_aload_n hx hb dX6_lookForInterrupt_78 rfl (lv_at hl 1 rfl) ?_
      refine va_get (D := (dC, dI)) (ci := 5) (v := .ref oB) (C := RX6) (T := TX6) (N := 9) hx hb hts (by decide +kernel) hown hK hP 0 rfl rfl 1 (by decide) (hts (.fieldLink RX6 33 "UnibusMachine$Processor" "bus" "LUnibusMachine$Bus;") (by decide +kernel)) (fun _ h9 => h9) rfl dX6_lookForInterrupt_79 ?_
      refine va_get (D := (dC, dI)) (ci := 0) (v := .ref oL) (C := RX0) (T := TX0) (N := 6) hx hb hts (by decide +kernel) hown hK hP 1 rfl rfl 4 (by decide) (hts (.fieldLink RX6 95 "UnibusMachine$Bus" "printer" "LUnibusMachine$Printer;") (by decide +kernel)) (fun _ h9 => h9) rfl dX6_lookForInterrupt_82 ?_
      refine va_get (D := (dC, dI)) (ci := 4) (v := .int 0) (C := RX5) (T := TX5) (N := 7) hx hb hts (by decide +kernel) hown hK hP 5 rfl rfl 1 (by decide) (hts (.fieldLink RX6 99 "UnibusMachine$Printer" "wanting" "Z") (by decide +kernel)) (u_same (hts (.sameField "UnibusMachine$Printer" "UnibusMachine$Line" "wanting" "Z") (by decide +kernel))) rfl dX6_lookForInterrupt_85 ?_
      refine lv_if_eq (tgt := 110) hx hb dX6_lookForInterrupt_88 (by decide) (fun c5 => ?_) (fun c5 => ?_)
      · skip
        have hP9 := hP.sub (ws' := [(h0, .inr (5, [.ref ar, .ref oB, .ref oS, .int 0, .int 0, .int 0, .int ve, .int 0, .int 0])), (oB, .inr (0, [.ref am, .ref oM, .ref oS, .ref oK, .ref oL, .ref oD])), (oS, .inr (6, [.int 224, .int (-1)])), (oD, .inr (1, [.int 128, .int 0, .ref aw, .int 0, .int 0, .int 0, .int 0, .int 0, .int 0, .int 0])), (oK, .inr (2, [.int 0, .int 0, .int 0])), (oL, .inr (4, [.int 128, .int 0, .ref ap, .int 0, .int 0, .int 0, .int 0]))]) [0, 1, 2, 3, 4, 5] rfl
        have hD9 := hD.sub (ws' := [(h0, .inr (5, [.ref ar, .ref oB, .ref oS, .int 0, .int 0, .int 0, .int ve, .int 0, .int 0])), (oB, .inr (0, [.ref am, .ref oM, .ref oS, .ref oK, .ref oL, .ref oD])), (oS, .inr (6, [.int 224, .int (-1)])), (oD, .inr (1, [.int 128, .int 0, .ref aw, .int 0, .int 0, .int 0, .int 0, .int 0, .int 0, .int 0])), (oK, .inr (2, [.int 0, .int 0, .int 0])), (oL, .inr (4, [.int 128, .int 0, .ref ap, .int 0, .int 0, .int 0, .int 0]))]) [0, 1, 2, 3, 4, 5] (by decide) rfl
        have hK9 := hK.sub (tys' := []) [] rfl
        exact W.vret hx hb hr (fun t ht hW => ⟨⟨(), rfl, trivial, by rw [ht]; exact hP9, va_K.moved hW.alike hK9, hD9⟩, hS.F ht⟩) hS.2.2 dX6_lookForInterrupt_110
      · exact absurd c5 (by decide)
    · exact absurd c4 (by decide)
  · exact absurd c3 (by decide)
set_option maxHeartbeats 4000000 in
set_option maxRecDepth 100000 in
theorem c_perform (l : Launch) (dC : Nat → ClassId) (dI : Nat → Nat → Nat) (h0 : Nat) (ar : Nat) (oB : Nat) (oS : Nat) (ve : Int32) (am : Nat) (oM : Nat) (oK : Nat) (oL : Nat) (oD : Nat) (ad : Nat) (ab : Nat) (tm : ClassId) (f : Nat → Int32) (tr : ClassId) (g : Nat → Int32) (z : Int) (ap : Nat) (aw : Nat) (sz : Nat) (hlt : l.stackTraces = false) (hF0 : f (2 : Int32).toNatClampNeg = 1) (hF1 : f (3 : Int32).toNatClampNeg = 224) (hF2 : g (7 : Int32).toNatClampNeg = 1) (hF3 : (g (6 : Int32).toNatClampNeg).toInt = z) (hH4 : 170 ≤ z) (hH5 : z ≤ 1024) (hH6 : z % 2 = 0) : Met l yX6_perform wsX6_perform ({ frames := 8, cells := 1, slots := 6, locals := 150 } : Room) (va_Pc [.ref h0] (fun U => U.heap.size = sz ∧ va_P (dC, dI) vwCl [(h0, .inr (5, [.ref ar, .ref oB, .ref oS, .int 0, .int 0, .int 0, .int ve, .int 0, .int 0])), (oB, .inr (0, [.ref am, .ref oM, .ref oS, .ref oK, .ref oL, .ref oD])), (oS, .inr (6, [.int 224, .int (-1)])), (oM, .inr (3, [.ref ad, .ref ab, .int 0])), (am, .inl (tm, 512, .inl f)), (ar, .inl (tr, 8, .inl g)), (oL, .inr (4, [.int 128, .int 0, .ref ap, .int 0, .int 0, .int 0, .int 0])), (oD, .inr (1, [.int 128, .int 0, .ref aw, .int 0, .int 0, .int 0, .int 0, .int 0, .int 0, .int 0]))] U.heap ∧ va_K (dC, dI) vwCl [(tm, .int), (tr, .int)] U ∧ va_D (fun _ => True) [(h0, .inr (5, [.ref ar, .ref oB, .ref oS, .int 0, .int 0, .int 0, .int ve, .int 0, .int 0])), (oB, .inr (0, [.ref am, .ref oM, .ref oS, .ref oK, .ref oL, .ref oD])), (oS, .inr (6, [.int 224, .int (-1)])), (oM, .inr (3, [.ref ad, .ref ab, .int 0])), (am, .inl (tm, 512, .inl f)), (ar, .inl (tr, 8, .inl g)), (oL, .inr (4, [.int 128, .int 0, .ref ap, .int 0, .int 0, .int 0, .int 0])), (oD, .inr (1, [.int 128, .int 0, .ref aw, .int 0, .int 0, .int 0, .int 0, .int 0, .int 0, .int 0]))] ∧ vx_Zq Bundle.tN "UNASSIGNED_STACK" Bundle.steD (va_A [(h0, .inr (5, [.ref ar, .ref oB, .ref oS, .int 0, .int 0, .int 0, .int ve, .int 0, .int 0])), (oB, .inr (0, [.ref am, .ref oM, .ref oS, .ref oK, .ref oL, .ref oD])), (oS, .inr (6, [.int 224, .int (-1)])), (oM, .inr (3, [.ref ad, .ref ab, .int 0])), (am, .inl (tm, 512, .inl f)), (ar, .inl (tr, 8, .inl g)), (oL, .inr (4, [.int 128, .int 0, .ref ap, .int 0, .int 0, .int 0, .int 0])), (oD, .inr (1, [.int 128, .int 0, .ref aw, .int 0, .int 0, .int 0, .int 0, .int 0, .int 0, .int 0]))] sz) U U.heap ∧ vx_Zq Bundle.tN "SUPPRESSED_SENTINEL" Bundle.listD (va_A [(h0, .inr (5, [.ref ar, .ref oB, .ref oS, .int 0, .int 0, .int 0, .int ve, .int 0, .int 0])), (oB, .inr (0, [.ref am, .ref oM, .ref oS, .ref oK, .ref oL, .ref oD])), (oS, .inr (6, [.int 224, .int (-1)])), (oM, .inr (3, [.ref ad, .ref ab, .int 0])), (am, .inl (tm, 512, .inl f)), (ar, .inl (tr, 8, .inl g)), (oL, .inr (4, [.int 128, .int 0, .ref ap, .int 0, .int 0, .int 0, .int 0])), (oD, .inr (1, [.int 128, .int 0, .ref aw, .int 0, .int 0, .int 0, .int 0, .int 0, .int 0, .int 0]))] sz) U U.heap ∧ va_Nw (.declares (Bundle.init0 "java/lang/RuntimeException")) U ∧ va_Nw (.declares (Bundle.init0 "java/lang/Exception")) U ∧ va_Nw (.declares (Bundle.init0 Bundle.tN)) U ∧ va_Nw (.castable "java/lang/UnsupportedOperationException" "java/lang/UnsupportedOperationException") U)) (va_Qv (fun (u : (Nat → Int32) × (Nat → Int32)) => (u.1 (2 : Int32).toNatClampNeg = 1) ∧ (u.1 (3 : Int32).toNatClampNeg = 224) ∧ (u.2 (7 : Int32).toNatClampNeg = 1) ∧ ((u.2 (6 : Int32).toNatClampNeg).toInt = z - 4)) (fun (u : (Nat → Int32) × (Nat → Int32)) (t : State) => va_P (dC, dI) vwCl [(h0, .inr (5, [.ref ar, .ref oB, .ref oS, .int 0, .int 0, .int 0, .int 4, .int 0, .int 0])), (oB, .inr (0, [.ref am, .ref oM, .ref oS, .ref oK, .ref oL, .ref oD])), (oS, .inr (6, [.int 224, .int (-1)])), (oM, .inr (3, [.ref ad, .ref ab, .int 0])), (am, .inl (tm, 512, .inl u.1)), (ar, .inl (tr, 8, .inl u.2)), (oL, .inr (4, [.int 128, .int 0, .ref ap, .int 0, .int 0, .int 0, .int 0])), (oD, .inr (1, [.int 128, .int 0, .ref aw, .int 0, .int 0, .int 0, .int 0, .int 0, .int 0, .int 0]))] t.heap ∧ va_K (dC, dI) vwCl [(tm, .int), (tr, .int)] t ∧ va_D (va_A [(h0, .inr (5, [.ref ar, .ref oB, .ref oS, .int 0, .int 0, .int 0, .int ve, .int 0, .int 0])), (oB, .inr (0, [.ref am, .ref oM, .ref oS, .ref oK, .ref oL, .ref oD])), (oS, .inr (6, [.int 224, .int (-1)])), (oM, .inr (3, [.ref ad, .ref ab, .int 0])), (am, .inl (tm, 512, .inl f)), (ar, .inl (tr, 8, .inl g)), (oL, .inr (4, [.int 128, .int 0, .ref ap, .int 0, .int 0, .int 0, .int 0])), (oD, .inr (1, [.int 128, .int 0, .ref aw, .int 0, .int 0, .int 0, .int 0, .int 0, .int 0, .int 0]))] sz) [(h0, .inr (5, [.ref ar, .ref oB, .ref oS, .int 0, .int 0, .int 0, .int 4, .int 0, .int 0])), (oB, .inr (0, [.ref am, .ref oM, .ref oS, .ref oK, .ref oL, .ref oD])), (oS, .inr (6, [.int 224, .int (-1)])), (oM, .inr (3, [.ref ad, .ref ab, .int 0])), (am, .inl (tm, 512, .inl u.1)), (ar, .inl (tr, 8, .inl u.2)), (oL, .inr (4, [.int 128, .int 0, .ref ap, .int 0, .int 0, .int 0, .int 0])), (oD, .inr (1, [.int 128, .int 0, .ref aw, .int 0, .int 0, .int 0, .int 0, .int 0, .int 0, .int 0]))] ∧ sz + 1 ≤ t.heap.size) (va_A [(h0, .inr (5, [.ref ar, .ref oB, .ref oS, .int 0, .int 0, .int 0, .int ve, .int 0, .int 0])), (oB, .inr (0, [.ref am, .ref oM, .ref oS, .ref oK, .ref oL, .ref oD])), (oS, .inr (6, [.int 224, .int (-1)])), (oM, .inr (3, [.ref ad, .ref ab, .int 0])), (am, .inl (tm, 512, .inl f)), (ar, .inl (tr, 8, .inl g)), (oL, .inr (4, [.int 128, .int 0, .ref ap, .int 0, .int 0, .int 0, .int 0])), (oD, .inr (1, [.int 128, .int 0, .ref aw, .int 0, .int 0, .int 0, .int 0, .int 0, .int 0, .int 0]))] sz)) 1 6 (va_A [(h0, .inr (5, [.ref ar, .ref oB, .ref oS, .int 0, .int 0, .int 0, .int ve, .int 0, .int 0])), (oB, .inr (0, [.ref am, .ref oM, .ref oS, .ref oK, .ref oL, .ref oD])), (oS, .inr (6, [.int 224, .int (-1)])), (oM, .inr (3, [.ref ad, .ref ab, .int 0])), (am, .inl (tm, 512, .inl f)), (ar, .inl (tr, 8, .inl g)), (oL, .inr (4, [.int 128, .int 0, .ref ap, .int 0, .int 0, .int 0, .int 0])), (oD, .inr (1, [.int 128, .int 0, .ref aw, .int 0, .int 0, .int 0, .int 0, .int 0, .int 0, .int 0]))] sz) := by
  refine va_MetW (cc := cX6_perform) (maxL := 3) (ret := none) (by decide) rfl ?_
  intro p e s m args below meth c s₁ B hml hv
  obtain ⟨rfl, hsz, hP, hK, hD0, hZU, hZN, hd1, hd2, hd3, hcU⟩ := hv
  have hx := B.exec
  have hb := B.bytes
  have hr := B.returns
  have hts := atoms_spec (ws := wsX6_perform) B.pre
  have hown : s.vm.findClass RX6 = some m.cls := findClass_of_methodNamed B.named
  have hlocks := B.notSynchronized
  have htb := vx_table (x := yX6_perform) (y := yX6_perform) (bytes := cX6_perform) (maxL' := 3) (ret' := none) (hh := [(17, 57, 60, 65)]) B (hts _ List.mem_cons_self)
  have hD := hD0.self (sz := sz)
  generalize hAe : va_A [(h0, .inr (5, [.ref ar, .ref oB, .ref oS, .int 0, .int 0, .int 0, .int ve, .int 0, .int 0])), (oB, .inr (0, [.ref am, .ref oM, .ref oS, .ref oK, .ref oL, .ref oD])), (oS, .inr (6, [.int 224, .int (-1)])), (oM, .inr (3, [.ref ad, .ref ab, .int 0])), (am, .inl (tm, 512, .inl f)), (ar, .inl (tr, 8, .inl g)), (oL, .inr (4, [.int 128, .int 0, .ref ap, .int 0, .int 0, .int 0, .int 0])), (oD, .inr (1, [.int 128, .int 0, .ref aw, .int 0, .int 0, .int 0, .int 0, .int 0, .int 0, .int 0]))] sz = A at hD hZU hZN ⊢
  have hA : ∀ q : Nat, s.heap.size ≤ q → A q := fun q h => by rw [← hAe]; exact Or.inr (by omega)
  have hS0 : ∀ G : Heap, s.heap = G → va_S A s.heap G [] := fun G h => by subst h; exact va_S.rf
  generalize hHe : s.heap = H at hP ⊢
  have hS := hS0 H hHe
  have hP : va_P (dC, dI) vwCl [(h0, .inr (5, [.ref ar, .ref oB, .ref oS, .int 0, .int 0, .int 0, .int ve, .int 0, .int 0])), (oB, .inr (0, [.ref am, .ref oM, .ref oS, .ref oK, .ref oL, .ref oD])), (oS, .inr (6, [.int 224, .int (-1)])), (oM, .inr (3, [.ref ad, .ref ab, .int 0])), (am, .inl (tm, 512, .inl f)), (ar, .inl (tr, 8, .inl g)), (oL, .inr (4, [.int 128, .int 0, .ref ap, .int 0, .int 0, .int 0, .int 0])), (oD, .inr (1, [.int 128, .int 0, .ref aw, .int 0, .int 0, .int 0, .int 0, .int 0, .int 0, .int 0]))] H := hP
  have hD : va_D A [(h0, .inr (5, [.ref ar, .ref oB, .ref oS, .int 0, .int 0, .int 0, .int ve, .int 0, .int 0])), (oB, .inr (0, [.ref am, .ref oM, .ref oS, .ref oK, .ref oL, .ref oD])), (oS, .inr (6, [.int 224, .int (-1)])), (oM, .inr (3, [.ref ad, .ref ab, .int 0])), (am, .inl (tm, 512, .inl f)), (ar, .inl (tr, 8, .inl g)), (oL, .inr (4, [.int 128, .int 0, .ref ap, .int 0, .int 0, .int 0, .int 0])), (oD, .inr (1, [.int 128, .int 0, .ref aw, .int 0, .int 0, .int 0, .int 0, .int 0, .int 0, .int 0]))] := hD
  have hK : va_K (dC, dI) vwCl [(tm, .int), (tr, .int)] s := hK
  have hl := lv_entry ([.ref h0]) (n := 3) (Nat.le_of_ble_eq_true rfl)
  rw [lg_entry_eq]
  generalize (lg_sl ([.ref h0]) ++ List.replicate (3 - (lg_sl ([.ref h0])).length) Slot.unset).toArray = ls at hl ⊢
  have hl : lv_has ls 3 [(0, .ref h0)] := hl
  refine lv_aload_n hx hb dX6_perform_0 rfl (lv_at hl 0 rfl) ?_
  refine va_get (D := (dC, dI)) (ci := 5) (v := .ref oB) (C := RX6) (T := TX6) (N := 9) hx hb hts (by decide +kernel) hown hK hP 0 rfl rfl 1 (by decide) (hts (.fieldLink RX6 33 "UnibusMachine$Processor" "bus" "LUnibusMachine$Bus;") (by decide +kernel)) (fun _ h9 => h9) rfl dX6_perform_1 ?_
  have hPc := hP.sub (ws' := [(oB, .inr (0, [.ref am, .ref oM, .ref oS, .ref oK, .ref oL, .ref oD])), (oL, .inr (4, [.int 128, .int 0, .ref ap, .int 0, .int 0, .int 0, .int 0])), (oD, .inr (1, [.int 128, .int 0, .ref aw, .int 0, .int 0, .int 0, .int 0, .int 0, .int 0, .int 0]))]) [1, 6, 7] rfl
  have hDc := hD.sub (ws' := [(oB, .inr (0, [.ref am, .ref oM, .ref oS, .ref oK, .ref oL, .ref oD])), (oL, .inr (4, [.int 128, .int 0, .ref ap, .int 0, .int 0, .int 0, .int 0])), (oD, .inr (1, [.int 128, .int 0, .ref aw, .int 0, .int 0, .int 0, .int 0, .int 0, .int 0, .int 0]))]) [1, 6, 7] (by decide) rfl
  have hKc := hK.sub (tys' := []) [] rfl
  have hFc := va_free (wc := [(oB, .inr (0, [.ref am, .ref oM, .ref oS, .ref oK, .ref oL, .ref oD])), (oL, .inr (4, [.int 128, .int 0, .ref ap, .int 0, .int 0, .int 0, .int 0])), (oD, .inr (1, [.int 128, .int 0, .ref aw, .int 0, .int 0, .int 0, .int 0, .int 0, .int 0, .int 0]))]) hD hS hA [1, 6, 7] rfl
  refine va_callv (va_runV (As := []) (rest := []) ⟨hx, hb, hml, hown, hts⟩ (c_nextInstruction l dC dI oB am oM oS oK oL oD ap aw H.size) (cwV 0 hts gX6_perform_X0_nextInstruction rfl rfl rfl (by decide +kernel) ⟨Nat.le_of_ble_eq_true rfl, Nat.le_of_ble_eq_true rfl⟩) ⟨fun a U g mk q => by obtain ⟨q0, q1, qP, qK, qD⟩ := q; exact ⟨q0, q1, qP, va_K.moved (u := U) (U := U.calling g mk a) (Vm.Alike.refl U.vm) qK, qD⟩, va_recv hKc hPc (ci := 0) (q0 := 0) rfl rfl, fun U hU hW => ⟨rfl, by rw [hU], by rw [hU]; exact hPc, va_K.moved hW.alike hKc, hDc.weaken (fun _ _ _ _ => trivial)⟩⟩ rfl rfl hl.1 rfl (lv_room (Nat.le_of_ble_eq_true rfl)) dX6_perform_4 ⟨Nat.le_of_ble_eq_true rfl, Nat.le_of_ble_eq_true rfl⟩) hS (fun q _ h => hFc q h) hFc (fun u2 t H1 locs ht hvm hw hB hz1 hk1 hS => ?_)
  obtain ⟨hP1, hK1, hD1⟩ := hB
  rw [ht] at hP1
  have hK1 := va_K.moved hvm.symm hK1
  try dsimp only at hw
  obtain ⟨hP, hD⟩ := va_join (wr := [(h0, .inr (5, [.ref ar, .ref oB, .ref oS, .int 0, .int 0, .int 0, .int ve, .int 0, .int 0])), (oS, .inr (6, [.int 224, .int (-1)])), (oM, .inr (3, [.ref ad, .ref ab, .int 0])), (am, .inl (tm, 512, .inl f)), (ar, .inl (tr, 8, .inl g))]) (w1 := [(oB, .inr (0, [.ref am, .ref oM, .ref oS, .ref oK, .ref oL, .ref oD])), (oL, .inr (4, [.int 128, .int 0, .ref ap, .int 0, .int 0, .int 0, .int 0])), (oD, .inr (1, [.int 128, .int 0, .ref aw, .int 0, .int 0, .int 0, .int 0, .int 0, .int 0, .int 0]))]) hP hD [1, 6, 7] [0, 2, 3, 4, 5] rfl rfl (by decide) (by decide) hk1 hFc hP1 hD1
  have hK := (hK.sub (tys' := [(tm, .int), (tr, .int)]) [0, 1] rfl).app hK1
  generalize H1 = H at hP hS ⊢
  have hP : va_P (dC, dI) vwCl [(h0, .inr (5, [.ref ar, .ref oB, .ref oS, .int 0, .int 0, .int 0, .int ve, .int 0, .int 0])), (oS, .inr (6, [.int 224, .int (-1)])), (oM, .inr (3, [.ref ad, .ref ab, .int 0])), (am, .inl (tm, 512, .inl f)), (ar, .inl (tr, 8, .inl g)), (oB, .inr (0, [.ref am, .ref oM, .ref oS, .ref oK, .ref oL, .ref oD])), (oL, .inr (4, [.int 128, .int 0, .ref ap, .int 0, .int 0, .int 0, .int 0])), (oD, .inr (1, [.int 128, .int 0, .ref aw, .int 0, .int 0, .int 0, .int 0, .int 0, .int 0, .int 0]))] H := hP
  have hD : va_D A [(h0, .inr (5, [.ref ar, .ref oB, .ref oS, .int 0, .int 0, .int 0, .int ve, .int 0, .int 0])), (oS, .inr (6, [.int 224, .int (-1)])), (oM, .inr (3, [.ref ad, .ref ab, .int 0])), (am, .inl (tm, 512, .inl f)), (ar, .inl (tr, 8, .inl g)), (oB, .inr (0, [.ref am, .ref oM, .ref oS, .ref oK, .ref oL, .ref oD])), (oL, .inr (4, [.int 128, .int 0, .ref ap, .int 0, .int 0, .int 0, .int 0])), (oD, .inr (1, [.int 128, .int 0, .ref aw, .int 0, .int 0, .int 0, .int 0, .int 0, .int 0, .int 0]))] := hD
  have hK : va_K (dC, dI) vwCl [(tm, .int), (tr, .int)] s := hK
  refine W.widen (k := 0) (n := 0) (Nat.le_of_ble_eq_true rfl) (Nat.le_of_ble_eq_true rfl) ?_
  refine lv_aload_n hx hb dX6_perform_7 rfl (lv_at hl 0 rfl) ?_
  refine va_get (D := (dC, dI)) (ci := 5) (v := .int 0) (C := RX6) (T := TX6) (N := 9) hx hb hts (by decide +kernel) hown hK hP 0 rfl rfl 5 (by decide) (hts (.fieldLink RX6 20 "UnibusMachine$Processor" "waiting" "Z") (by decide +kernel)) (fun _ h9 => h9) rfl dX6_perform_8 ?_
  refine lv_if_eq (tgt := 15) hx hb dX6_perform_11 (by decide) (fun c3 => ?_) (fun c3 => ?_)
  · skip
    refine lv_iconst (v := 0) hx hb dX6_perform_15 (by decide) ?_
    refine lv_istore_n (lv' := [(1, .int 0), (0, .ref h0)]) hx hb dX6_perform_16 rfl hl (by decide) rfl (fun ls hl => ?_)
    refine lv_aload_n hx hb dX6_perform_17 rfl (lv_at hl 1 rfl) ?_
    refine lv_aload_n hx hb dX6_perform_18 rfl (lv_at hl 1 rfl) ?_
    have hPc := hP.sub (ws' := [(h0, .inr (5, [.ref ar, .ref oB, .ref oS, .int 0, .int 0, .int 0, .int ve, .int 0, .int 0])), (oS, .inr (6, [.int 224, .int (-1)]))]) [0, 1] rfl
    have hDc := hD.sub (ws' := [(h0, .inr (5, [.ref ar, .ref oB, .ref oS, .int 0, .int 0, .int 0, .int ve, .int 0, .int 0])), (oS, .inr (6, [.int 224, .int (-1)]))]) [0, 1] (by decide) rfl
    have hKc := hK.sub (tys' := []) [] rfl
    have hFc := va_free (wc := [(h0, .inr (5, [.ref ar, .ref oB, .ref oS, .int 0, .int 0, .int 0, .int ve, .int 0, .int 0])), (oS, .inr (6, [.int 224, .int (-1)]))]) hD hS hA [0, 1] rfl
    refine va_calli (va_runV (As := []) (rest := [.ref h0]) ⟨hx, hb, hml, hown, hts⟩ (c_mode l dC dI h0 ar oB oS ve H.size) (cwV 0 hts gX6_perform_X6_mode rfl rfl rfl (by decide +kernel) ⟨Nat.le_of_ble_eq_true rfl, Nat.le_of_ble_eq_true rfl⟩) ⟨fun a U g mk q => by obtain ⟨q0, q1, qP, qK, qD⟩ := q; exact ⟨q0, q1, qP, va_K.moved (u := U) (U := U.calling g mk a) (Vm.Alike.refl U.vm) qK, qD⟩, va_recv hKc hPc (ci := 5) (q0 := 0) rfl rfl, fun U hU hW => ⟨rfl, by rw [hU], by rw [hU]; exact hPc, va_K.moved hW.alike hKc, hDc.weaken (fun _ _ _ _ => trivial)⟩⟩ rfl rfl hl.1 rfl (lv_room (Nat.le_of_ble_eq_true rfl)) dX6_perform_19 ⟨Nat.le_of_ble_eq_true rfl, Nat.le_of_ble_eq_true rfl⟩) hS (fun q _ h => hFc q h) hFc (fun r4 u5 t H1 locs ht hvm hw hB hz1 hk1 hS => ?_)
    obtain ⟨hP1, hK1, hD1⟩ := hB
    rw [ht] at hP1
    have hK1 := va_K.moved hvm.symm hK1
    try dsimp only at hw
    obtain ⟨hP, hD⟩ := va_join (wr := [(oM, .inr (3, [.ref ad, .ref ab, .int 0])), (am, .inl (tm, 512, .inl f)), (ar, .inl (tr, 8, .inl g)), (oB, .inr (0, [.ref am, .ref oM, .ref oS, .ref oK, .ref oL, .ref oD])), (oL, .inr (4, [.int 128, .int 0, .ref ap, .int 0, .int 0, .int 0, .int 0])), (oD, .inr (1, [.int 128, .int 0, .ref aw, .int 0, .int 0, .int 0, .int 0, .int 0, .int 0, .int 0]))]) (w1 := [(h0, .inr (5, [.ref ar, .ref oB, .ref oS, .int 0, .int 0, .int 0, .int ve, .int 0, .int 0])), (oS, .inr (6, [.int 224, .int (-1)]))]) hP hD [0, 1] [2, 3, 4, 5, 6, 7] rfl rfl (by decide) (by decide) hk1 hFc hP1 hD1
    have hK := (hK.sub (tys' := [(tm, .int), (tr, .int)]) [0, 1] rfl).app hK1
    generalize H1 = H at hP hS ⊢
    have hP : va_P (dC, dI) vwCl [(oM, .inr (3, [.ref ad, .ref ab, .int 0])), (am, .inl (tm, 512, .inl f)), (ar, .inl (tr, 8, .inl g)), (oB, .inr (0, [.ref am, .ref oM, .ref oS, .ref oK, .ref oL, .ref oD])), (oL, .inr (4, [.int 128, .int 0, .ref ap, .int 0, .int 0, .int 0, .int 0])), (oD, .inr (1, [.int 128, .int 0, .ref aw, .int 0, .int 0, .int 0, .int 0, .int 0, .int 0, .int 0])), (h0, .inr (5, [.ref ar, .ref oB, .ref oS, .int 0, .int 0, .int 0, .int ve, .int 0, .int 0])), (oS, .inr (6, [.int 224, .int (-1)]))] H := hP
    have hD : va_D A [(oM, .inr (3, [.ref ad, .ref ab, .int 0])), (am, .inl (tm, 512, .inl f)), (ar, .inl (tr, 8, .inl g)), (oB, .inr (0, [.ref am, .ref oM, .ref oS, .ref oK, .ref oL, .ref oD])), (oL, .inr (4, [.int 128, .int 0, .ref ap, .int 0, .int 0, .int 0, .int 0])), (oD, .inr (1, [.int 128, .int 0, .ref aw, .int 0, .int 0, .int 0, .int 0, .int 0, .int 0, .int 0])), (h0, .inr (5, [.ref ar, .ref oB, .ref oS, .int 0, .int 0, .int 0, .int ve, .int 0, .int 0])), (oS, .inr (6, [.int 224, .int (-1)]))] := hD
    have hK : va_K (dC, dI) vwCl [(tm, .int), (tr, .int)] s := hK
    refine W.widen (k := 0) (n := 0) (Nat.le_of_ble_eq_true rfl) (Nat.le_of_ble_eq_true rfl) ?_
    obtain rfl := hw
    refine lv_aload_n hx hb dX6_perform_22 rfl (lv_at hl 1 rfl) ?_
    refine va_get (D := (dC, dI)) (ci := 5) (v := .ref ar) (C := RX6) (T := TX6) (N := 9) hx hb hts (by decide +kernel) hown hK hP 6 rfl rfl 0 (by decide) (hts (.fieldLink RX6 7 "UnibusMachine$Processor" "registers" "[I") (by decide +kernel)) (fun _ h9 => h9) rfl dX6_perform_23 ?_
    refine lv_bipush (v := 7) hx hb dX6_perform_26 (by decide) ?_
    refine va_iald (D := (dC, dI)) hx hb hK hP 2 1 rfl rfl (vp_in_iff.mpr (by decide)) dX6_perform_28 ?_
    refine lv_topi (fun y6 ey6 => ?_)
    obtain rfl : y6 = 1 := by rw [ey6]; assumption
    have hPc := hP.sub (ws' := [(h0, .inr (5, [.ref ar, .ref oB, .ref oS, .int 0, .int 0, .int 0, .int ve, .int 0, .int 0]))]) [6] rfl
    have hDc := hD.sub (ws' := [(h0, .inr (5, [.ref ar, .ref oB, .ref oS, .int 0, .int 0, .int 0, .int ve, .int 0, .int 0]))]) [6] (by decide) rfl
    have hKc := hK.sub (tys' := []) [] rfl
    have hFc := va_free (wc := [(h0, .inr (5, [.ref ar, .ref oB, .ref oS, .int 0, .int 0, .int 0, .int ve, .int 0, .int 0]))]) hD hS hA [6] rfl
    have hSz := hS.1
    refine vx_calli (vx_runV (As := [.int 0, .int 1]) (rest := []) ⟨hx, hb, hml, hown, hts⟩ (c_readOdd l dC dI h0 ar oB oS ve H.size hlt) (cwV 2 hts gX6_perform_X6_readWord rfl rfl rfl (by decide +kernel) ⟨Nat.le_of_ble_eq_true rfl, Nat.le_of_ble_eq_true rfl⟩) ⟨fun a U g mk q => by obtain ⟨q0, q1, qP, qK, qD, e0, e1, e2, e3, e4, e5⟩ := q; exact ⟨q0, q1, qP, va_K.moved (u := U) (U := U.calling g mk a) (Vm.Alike.refl U.vm) qK, qD, vx_Zq.moved (u := U) (U := U.calling g mk a) (Vm.Alike.refl U.vm) e0, vx_Zq.moved (u := U) (U := U.calling g mk a) (Vm.Alike.refl U.vm) e1, va_Nw.same (U := U.calling g mk a) rfl rfl e2, va_Nw.same (U := U.calling g mk a) rfl rfl e3, va_Nw.same (U := U.calling g mk a) rfl rfl e4, va_Nw.same (U := U.calling g mk a) rfl rfl e5⟩, va_recv hKc hPc (ci := 5) (q0 := 0) rfl rfl, fun U hU hW => ⟨rfl, by rw [hU], by rw [hU]; exact hPc, va_K.moved hW.alike hKc, hDc.weaken (fun _ _ _ _ => trivial), by rw [hU]; exact vx_Zq.moved hW.alike (vx_Zq.narrow (vx_Zq.kept hZU hS.2.1) hFc), by rw [hU]; exact vx_Zq.moved hW.alike (vx_Zq.narrow (vx_Zq.kept hZN hS.2.1) hFc), va_Nw.warmD hW hd1, va_Nw.warmD hW hd2, va_Nw.warmD hW hd3, va_Nw.warmC hW hcU⟩⟩ rfl rfl hl.1 rfl (lv_room (Nat.le_of_ble_eq_true rfl)) dX6_perform_29 ⟨Nat.le_of_ble_eq_true rfl, Nat.le_of_ble_eq_true rfl⟩) hS (fun q _ h => hFc q h) hFc (fun q _ h => hFc q h) (fun E9 ce9 q9 u t H1 locs ht hvm hpx hBX hz1 hk1 hS hce hcv hcl => ?_) (fun r7 u8 t H1 locs ht hvm hw hB hz1 hk1 hS => ?_)
    · skip
      obtain ⟨rfl, hP1, hK1, hD1, hg1⟩ := hBX
      rw [ht] at hP1 hg1
      have hK1 := va_K.moved hvm.symm hK1
      refine vx_catch (own := RX6) (name := "java/lang/UnsupportedOperationException") hown [] ⟨17, 57, 60, 65⟩ [] (by rw [htb]; rfl) (fun z hz => nomatch hz) (by decide) (by decide) (hts (.classLink RX6 65 "java/lang/UnsupportedOperationException") (by decide +kernel)) (va_Nw.use rfl hcU) hce hcv hcl ?_
      obtain ⟨hP, hD⟩ := va_join (wr := [(oM, .inr (3, [.ref ad, .ref ab, .int 0])), (am, .inl (tm, 512, .inl f)), (ar, .inl (tr, 8, .inl g)), (oB, .inr (0, [.ref am, .ref oM, .ref oS, .ref oK, .ref oL, .ref oD])), (oL, .inr (4, [.int 128, .int 0, .ref ap, .int 0, .int 0, .int 0, .int 0])), (oD, .inr (1, [.int 128, .int 0, .ref aw, .int 0, .int 0, .int 0, .int 0, .int 0, .int 0, .int 0])), (oS, .inr (6, [.int 224, .int (-1)]))]) (w1 := [(h0, .inr (5, [.ref ar, .ref oB, .ref oS, .int 0, .int 0, .int 0, .int 4, .int 0, .int 0]))]) hP hD [6] [0, 1, 2, 3, 4, 5, 7] rfl rfl (by decide) (by decide) hk1 hFc hP1 hD1
      have hK := (hK.sub (tys' := [(tm, .int), (tr, .int)]) [0, 1] rfl).app hK1
      have hgr : sz + 1 ≤ H1.size := by omega
      generalize H1 = H at hP hS hgr ⊢
      have hP : va_P (dC, dI) vwCl [(oM, .inr (3, [.ref ad, .ref ab, .int 0])), (am, .inl (tm, 512, .inl f)), (ar, .inl (tr, 8, .inl g)), (oB, .inr (0, [.ref am, .ref oM, .ref oS, .ref oK, .ref oL, .ref oD])), (oL, .inr (4, [.int 128, .int 0, .ref ap, .int 0, .int 0, .int 0, .int 0])), (oD, .inr (1, [.int 128, .int 0, .ref aw, .int 0, .int 0, .int 0, .int 0, .int 0, .int 0, .int 0])), (oS, .inr (6, [.int 224, .int (-1)])), (h0, .inr (5, [.ref ar, .ref oB, .ref oS, .int 0, .int 0, .int 0, .int 4, .int 0, .int 0]))] H := hP
      have hD : va_D A [(oM, .inr (3, [.ref ad, .ref ab, .int 0])), (am, .inl (tm, 512, .inl f)), (ar, .inl (tr, 8, .inl g)), (oB, .inr (0, [.ref am, .ref oM, .ref oS, .ref oK, .ref oL, .ref oD])), (oL, .inr (4, [.int 128, .int 0, .ref ap, .int 0, .int 0, .int 0, .int 0])), (oD, .inr (1, [.int 128, .int 0, .ref aw, .int 0, .int 0, .int 0, .int 0, .int 0, .int 0, .int 0])), (oS, .inr (6, [.int 224, .int (-1)])), (h0, .inr (5, [.ref ar, .ref oB, .ref oS, .int 0, .int 0, .int 0, .int 4, .int 0, .int 0]))] := hD
      have hK : va_K (dC, dI) vwCl [(tm, .int), (tr, .int)] s := hK
      refine W.widen (k := 1) (n := 6) (Nat.le_of_ble_eq_true rfl) (Nat.le_of_ble_eq_true rfl) ?_
      refine lv_astore_n (lv' := [(2, .ref q9), (1, .int 0), (0, .ref h0)]) hx hb dX6_perform_60 rfl hl (by decide) rfl (fun ls hl => ?_)
      refine lv_iconst (v := 1) hx hb dX6_perform_61 (by decide) ?_
      refine lv_istore_n (lv' := [(1, .int 1), (2, .ref q9), (0, .ref h0)]) hx hb dX6_perform_62 rfl hl (by decide) rfl (fun ls hl => ?_)
      refine lv_iload_n hx hb dX6_perform_63 rfl (lv_at hl 0 rfl) ?_
      refine lv_if_eq (tgt := 78) hx hb dX6_perform_64 (by decide) (fun c9 => ?_) (fun c9 => ?_)
      · exact absurd c9 (by decide)
      · skip
        refine lv_aload_n hx hb dX6_perform_67 rfl (lv_at hl 2 rfl) ?_
        refine lv_aload_n hx hb dX6_perform_68 rfl (lv_at hl 2 rfl) ?_
        refine va_get (D := (dC, dI)) (ci := 5) (v := .int 4) (C := RX6) (T := TX6) (N := 9) hx hb hts (by decide +kernel) hown hK hP 7 rfl rfl 6 (by decide) (hts (.fieldLink RX6 24 "UnibusMachine$Processor" "vector" "I") (by decide +kernel)) (fun _ h9 => h9) rfl dX6_perform_69 ?_
        have hPc := hP.sub (ws' := [(h0, .inr (5, [.ref ar, .ref oB, .ref oS, .int 0, .int 0, .int 0, .int 4, .int 0, .int 0])), (oS, .inr (6, [.int 224, .int (-1)])), (oB, .inr (0, [.ref am, .ref oM, .ref oS, .ref oK, .ref oL, .ref oD])), (oM, .inr (3, [.ref ad, .ref ab, .int 0])), (am, .inl (tm, 512, .inl f)), (ar, .inl (tr, 8, .inl g))]) [7, 6, 3, 0, 1, 2] rfl
        have hDc := hD.sub (ws' := [(h0, .inr (5, [.ref ar, .ref oB, .ref oS, .int 0, .int 0, .int 0, .int 4, .int 0, .int 0])), (oS, .inr (6, [.int 224, .int (-1)])), (oB, .inr (0, [.ref am, .ref oM, .ref oS, .ref oK, .ref oL, .ref oD])), (oM, .inr (3, [.ref ad, .ref ab, .int 0])), (am, .inl (tm, 512, .inl f)), (ar, .inl (tr, 8, .inl g))]) [7, 6, 3, 0, 1, 2] (by decide) rfl
        have hKc := hK.sub (tys' := [(tm, .int), (tr, .int)]) [0, 1] rfl
        have hFc := va_free (wc := [(h0, .inr (5, [.ref ar, .ref oB, .ref oS, .int 0, .int 0, .int 0, .int 4, .int 0, .int 0])), (oS, .inr (6, [.int 224, .int (-1)])), (oB, .inr (0, [.ref am, .ref oM, .ref oS, .ref oK, .ref oL, .ref oD])), (oM, .inr (3, [.ref ad, .ref ab, .int 0])), (am, .inl (tm, 512, .inl f)), (ar, .inl (tr, 8, .inl g))]) hD hS hA [7, 6, 3, 0, 1, 2] rfl
        have hSz := hS.1
        refine va_callv (vx_runVW (As := [.int 4]) (rest := []) ⟨hx, hb, hml, hown, hts⟩ (c_enter4 l dC dI h0 ar oB oS 4 am oM oK oL oD ad ab tm f tr g z H.size (by first | assumption | omega | decide) (by first | assumption | omega | decide) (by first | assumption | omega | decide) (by first | assumption | omega | decide) (by first | assumption | omega | decide) (by first | assumption | omega | decide) (by first | assumption | omega | decide)) (vx_cwVW 1 hts gX6_perform_X6_enter rfl rfl rfl (by decide +kernel) ⟨Nat.le_of_ble_eq_true rfl, Nat.le_of_ble_eq_true rfl⟩) ⟨fun a U g mk q => by obtain ⟨q0, q1, qP, qK, qD⟩ := q; exact ⟨q0, q1, qP, va_K.moved (u := U) (U := U.calling g mk a) (Vm.Alike.refl U.vm) qK, qD⟩, va_recv hKc hPc (ci := 5) (q0 := 0) rfl rfl, fun U hU hW => ⟨rfl, by rw [hU], by rw [hU]; exact hPc, va_K.moved hW.alike hKc, hDc.weaken (fun _ _ _ _ => trivial)⟩⟩ rfl rfl hl.1 rfl (lv_room (Nat.le_of_ble_eq_true rfl)) dX6_perform_72 ⟨Nat.le_of_ble_eq_true rfl, Nat.le_of_ble_eq_true rfl⟩) hS (fun q _ h => hFc q h) hFc (fun u11 t H1 locs ht hvm hw hB hz1 hk1 hS => ?_)
        obtain ⟨hP1, hK1, hD1⟩ := hB
        rw [ht] at hP1
        have hK1 := va_K.moved hvm.symm hK1
        try dsimp only at hw
        obtain ⟨hP, hD⟩ := va_join (wr := [(oL, .inr (4, [.int 128, .int 0, .ref ap, .int 0, .int 0, .int 0, .int 0])), (oD, .inr (1, [.int 128, .int 0, .ref aw, .int 0, .int 0, .int 0, .int 0, .int 0, .int 0, .int 0]))]) (w1 := [(h0, .inr (5, [.ref ar, .ref oB, .ref oS, .int 0, .int 0, .int 0, .int 4, .int 0, .int 0])), (oS, .inr (6, [.int 224, .int (-1)])), (oB, .inr (0, [.ref am, .ref oM, .ref oS, .ref oK, .ref oL, .ref oD])), (oM, .inr (3, [.ref ad, .ref ab, .int 0])), (am, .inl (tm, 512, .inl u11.1)), (ar, .inl (tr, 8, .inl u11.2))]) hP hD [7, 6, 3, 0, 1, 2] [4, 5] rfl rfl (by decide) (by decide) hk1 hFc hP1 hD1
        have hK := (hK.sub (tys' := []) [] rfl).app hK1
        have hgr : sz + 1 ≤ H1.size := by omega
        generalize H1 = H at hP hS hgr ⊢
        have hP : va_P (dC, dI) vwCl [(oL, .inr (4, [.int 128, .int 0, .ref ap, .int 0, .int 0, .int 0, .int 0])), (oD, .inr (1, [.int 128, .int 0, .ref aw, .int 0, .int 0, .int 0, .int 0, .int 0, .int 0, .int 0])), (h0, .inr (5, [.ref ar, .ref oB, .ref oS, .int 0, .int 0, .int 0, .int 4, .int 0, .int 0])), (oS, .inr (6, [.int 224, .int (-1)])), (oB, .inr (0, [.ref am, .ref oM, .ref oS, .ref oK, .ref oL, .ref oD])), (oM, .inr (3, [.ref ad, .ref ab, .int 0])), (am, .inl (tm, 512, .inl u11.1)), (ar, .inl (tr, 8, .inl u11.2))] H := hP
        have hD : va_D A [(oL, .inr (4, [.int 128, .int 0, .ref ap, .int 0, .int 0, .int 0, .int 0])), (oD, .inr (1, [.int 128, .int 0, .ref aw, .int 0, .int 0, .int 0, .int 0, .int 0, .int 0, .int 0])), (h0, .inr (5, [.ref ar, .ref oB, .ref oS, .int 0, .int 0, .int 0, .int 4, .int 0, .int 0])), (oS, .inr (6, [.int 224, .int (-1)])), (oB, .inr (0, [.ref am, .ref oM, .ref oS, .ref oK, .ref oL, .ref oD])), (oM, .inr (3, [.ref ad, .ref ab, .int 0])), (am, .inl (tm, 512, .inl u11.1)), (ar, .inl (tr, 8, .inl u11.2))] := hD
        have hK : va_K (dC, dI) vwCl [(tm, .int), (tr, .int)] s := hK
        refine W.widen (k := 1) (n := 6) (Nat.le_of_ble_eq_true rfl) (Nat.le_of_ble_eq_true rfl) ?_
        obtain ⟨_, _, _, _⟩ := hw
        refine lv_goto (tgt := 82) hx hb dX6_perform_75 (by decide) ?_
        have hx12 : u11.1 (2 : Int32).toNatClampNeg = 1 := by first | assumption | omega
        have hx13 : u11.1 (3 : Int32).toNatClampNeg = 224 := by first | assumption | omega
        have hx14 : u11.2 (7 : Int32).toNatClampNeg = 1 := by first | assumption | omega
        have hx15 : (u11.2 (6 : Int32).toNatClampNeg).toInt = z - 4 := by first | assumption | omega
        have hP9 := hP.sub (ws' := [(h0, .inr (5, [.ref ar, .ref oB, .ref oS, .int 0, .int 0, .int 0, .int 4, .int 0, .int 0])), (oB, .inr (0, [.ref am, .ref oM, .ref oS, .ref oK, .ref oL, .ref oD])), (oS, .inr (6, [.int 224, .int (-1)])), (oM, .inr (3, [.ref ad, .ref ab, .int 0])), (am, .inl (tm, 512, .inl u11.1)), (ar, .inl (tr, 8, .inl u11.2)), (oL, .inr (4, [.int 128, .int 0, .ref ap, .int 0, .int 0, .int 0, .int 0])), (oD, .inr (1, [.int 128, .int 0, .ref aw, .int 0, .int 0, .int 0, .int 0, .int 0, .int 0, .int 0]))]) [2, 4, 3, 5, 6, 7, 0, 1] rfl
        have hD9 := hD.sub (ws' := [(h0, .inr (5, [.ref ar, .ref oB, .ref oS, .int 0, .int 0, .int 0, .int 4, .int 0, .int 0])), (oB, .inr (0, [.ref am, .ref oM, .ref oS, .ref oK, .ref oL, .ref oD])), (oS, .inr (6, [.int 224, .int (-1)])), (oM, .inr (3, [.ref ad, .ref ab, .int 0])), (am, .inl (tm, 512, .inl u11.1)), (ar, .inl (tr, 8, .inl u11.2)), (oL, .inr (4, [.int 128, .int 0, .ref ap, .int 0, .int 0, .int 0, .int 0])), (oD, .inr (1, [.int 128, .int 0, .ref aw, .int 0, .int 0, .int 0, .int 0, .int 0, .int 0, .int 0]))]) [2, 4, 3, 5, 6, 7, 0, 1] (by decide) rfl
        have hK9 := hK.sub (tys' := [(tm, .int), (tr, .int)]) [0, 1] rfl
        exact W.vret hx hb hr (fun t ht hW => ⟨⟨(u11.1, u11.2), rfl, ⟨hx12, hx13, hx14, hx15⟩, by rw [ht]; exact hP9, va_K.moved hW.alike hK9, hD9, by rw [ht]; omega⟩, hS.F ht⟩) hS.2.2 dX6_perform_82
    · skip
      exact False.elim hw
  · exact absurd c3 (by decide)
set_option maxHeartbeats 4000000 in
set_option maxRecDepth 100000 in
theorem c_run4 (l : Launch) (dC : Nat → ClassId) (dI : Nat → Nat → Nat) (h0 : Nat) (oB : Nat) (oP : Nat) (oS : Nat) (ar : Nat) (ve : Int32) (am : Nat) (oM : Nat) (oK : Nat) (oL : Nat) (oD : Nat) (ad : Nat) (ab : Nat) (tm : ClassId) (f : Nat → Int32) (tr : ClassId) (g : Nat → Int32) (z : Int) (ap : Nat) (aw : Nat) (sz : Nat) (hlt : l.stackTraces = false) (hF0 : f (2 : Int32).toNatClampNeg = 1) (hF1 : f (3 : Int32).toNatClampNeg = 224) (hF2 : g (7 : Int32).toNatClampNeg = 1) (hF3 : (g (6 : Int32).toNatClampNeg).toInt = z) (hH4 : 182 ≤ z) (hH5 : z ≤ 1024) (hH6 : z % 2 = 0) : Met l yX8_run wsX8_run ({ frames := 9, cells := 4, slots := 24, locals := 172 } : Room) (va_Pc [.ref h0, .int 4] (fun U => U.heap.size = sz ∧ va_P (dC, dI) vwCl [(h0, .inr (7, [.ref oB, .ref oP])), (oP, .inr (5, [.ref ar, .ref oB, .ref oS, .int 0, .int 0, .int 0, .int ve, .int 0, .int 0])), (oB, .inr (0, [.ref am, .ref oM, .ref oS, .ref oK, .ref oL, .ref oD])), (oS, .inr (6, [.int 224, .int (-1)])), (oM, .inr (3, [.ref ad, .ref ab, .int 0])), (am, .inl (tm, 512, .inl f)), (ar, .inl (tr, 8, .inl g)), (oL, .inr (4, [.int 128, .int 0, .ref ap, .int 0, .int 0, .int 0, .int 0])), (oD, .inr (1, [.int 128, .int 0, .ref aw, .int 0, .int 0, .int 0, .int 0, .int 0, .int 0, .int 0])), (oK, .inr (2, [.int 0, .int 0, .int 0]))] U.heap ∧ va_K (dC, dI) vwCl [(tm, .int), (tr, .int)] U ∧ va_D (fun _ => True) [(h0, .inr (7, [.ref oB, .ref oP])), (oP, .inr (5, [.ref ar, .ref oB, .ref oS, .int 0, .int 0, .int 0, .int ve, .int 0, .int 0])), (oB, .inr (0, [.ref am, .ref oM, .ref oS, .ref oK, .ref oL, .ref oD])), (oS, .inr (6, [.int 224, .int (-1)])), (oM, .inr (3, [.ref ad, .ref ab, .int 0])), (am, .inl (tm, 512, .inl f)), (ar, .inl (tr, 8, .inl g)), (oL, .inr (4, [.int 128, .int 0, .ref ap, .int 0, .int 0, .int 0, .int 0])), (oD, .inr (1, [.int 128, .int 0, .ref aw, .int 0, .int 0, .int 0, .int 0, .int 0, .int 0, .int 0])), (oK, .inr (2, [.int 0, .int 0, .int 0]))] ∧ vx_Zq Bundle.tN "UNASSIGNED_STACK" Bundle.steD (va_A [(h0, .inr (7, [.ref oB, .ref oP])), (oP, .inr (5, [.ref ar, .ref oB, .ref oS, .int 0, .int 0, .int 0, .int ve, .int 0, .int 0])), (oB, .inr (0, [.ref am, .ref oM, .ref oS, .ref oK, .ref oL, .ref oD])), (oS, .inr (6, [.int 224, .int (-1)])), (oM, .inr (3, [.ref ad, .ref ab, .int 0])), (am, .inl (tm, 512, .inl f)), (ar, .inl (tr, 8, .inl g)), (oL, .inr (4, [.int 128, .int 0, .ref ap, .int 0, .int 0, .int 0, .int 0])), (oD, .inr (1, [.int 128, .int 0, .ref aw, .int 0, .int 0, .int 0, .int 0, .int 0, .int 0, .int 0])), (oK, .inr (2, [.int 0, .int 0, .int 0]))] sz) U U.heap ∧ vx_Zq Bundle.tN "SUPPRESSED_SENTINEL" Bundle.listD (va_A [(h0, .inr (7, [.ref oB, .ref oP])), (oP, .inr (5, [.ref ar, .ref oB, .ref oS, .int 0, .int 0, .int 0, .int ve, .int 0, .int 0])), (oB, .inr (0, [.ref am, .ref oM, .ref oS, .ref oK, .ref oL, .ref oD])), (oS, .inr (6, [.int 224, .int (-1)])), (oM, .inr (3, [.ref ad, .ref ab, .int 0])), (am, .inl (tm, 512, .inl f)), (ar, .inl (tr, 8, .inl g)), (oL, .inr (4, [.int 128, .int 0, .ref ap, .int 0, .int 0, .int 0, .int 0])), (oD, .inr (1, [.int 128, .int 0, .ref aw, .int 0, .int 0, .int 0, .int 0, .int 0, .int 0, .int 0])), (oK, .inr (2, [.int 0, .int 0, .int 0]))] sz) U U.heap ∧ va_Nw (.declares (Bundle.init0 "java/lang/RuntimeException")) U ∧ va_Nw (.declares (Bundle.init0 "java/lang/Exception")) U ∧ va_Nw (.declares (Bundle.init0 Bundle.tN)) U ∧ va_Nw (.castable "java/lang/UnsupportedOperationException" "java/lang/UnsupportedOperationException") U)) (va_Qi (fun (r : Int32) (u : (Nat → Int32) × (Nat → Int32)) => (4 = r) ∧ (u.1 (2 : Int32).toNatClampNeg = 1) ∧ (u.1 (3 : Int32).toNatClampNeg = 224) ∧ (u.2 (7 : Int32).toNatClampNeg = 1) ∧ ((u.2 (6 : Int32).toNatClampNeg).toInt = z - 16)) (fun (u : (Nat → Int32) × (Nat → Int32)) (t : State) => va_P (dC, dI) vwCl [(h0, .inr (7, [.ref oB, .ref oP])), (oP, .inr (5, [.ref ar, .ref oB, .ref oS, .int 0, .int 0, .int 0, .int 4, .int 0, .int 0])), (oB, .inr (0, [.ref am, .ref oM, .ref oS, .ref oK, .ref oL, .ref oD])), (oS, .inr (6, [.int 224, .int (-1)])), (oM, .inr (3, [.ref ad, .ref ab, .int 0])), (am, .inl (tm, 512, .inl u.1)), (ar, .inl (tr, 8, .inl u.2)), (oL, .inr (4, [.int 128, .int 0, .ref ap, .int 0, .int 0, .int 0, .int 0])), (oD, .inr (1, [.int 128, .int 0, .ref aw, .int 0, .int 0, .int 0, .int 0, .int 0, .int 0, .int 0])), (oK, .inr (2, [.int 0, .int 0, .int 0]))] t.heap ∧ va_K (dC, dI) vwCl [(tm, .int), (tr, .int)] t ∧ va_D (va_A [(h0, .inr (7, [.ref oB, .ref oP])), (oP, .inr (5, [.ref ar, .ref oB, .ref oS, .int 0, .int 0, .int 0, .int ve, .int 0, .int 0])), (oB, .inr (0, [.ref am, .ref oM, .ref oS, .ref oK, .ref oL, .ref oD])), (oS, .inr (6, [.int 224, .int (-1)])), (oM, .inr (3, [.ref ad, .ref ab, .int 0])), (am, .inl (tm, 512, .inl f)), (ar, .inl (tr, 8, .inl g)), (oL, .inr (4, [.int 128, .int 0, .ref ap, .int 0, .int 0, .int 0, .int 0])), (oD, .inr (1, [.int 128, .int 0, .ref aw, .int 0, .int 0, .int 0, .int 0, .int 0, .int 0, .int 0])), (oK, .inr (2, [.int 0, .int 0, .int 0]))] sz) [(h0, .inr (7, [.ref oB, .ref oP])), (oP, .inr (5, [.ref ar, .ref oB, .ref oS, .int 0, .int 0, .int 0, .int 4, .int 0, .int 0])), (oB, .inr (0, [.ref am, .ref oM, .ref oS, .ref oK, .ref oL, .ref oD])), (oS, .inr (6, [.int 224, .int (-1)])), (oM, .inr (3, [.ref ad, .ref ab, .int 0])), (am, .inl (tm, 512, .inl u.1)), (ar, .inl (tr, 8, .inl u.2)), (oL, .inr (4, [.int 128, .int 0, .ref ap, .int 0, .int 0, .int 0, .int 0])), (oD, .inr (1, [.int 128, .int 0, .ref aw, .int 0, .int 0, .int 0, .int 0, .int 0, .int 0, .int 0])), (oK, .inr (2, [.int 0, .int 0, .int 0]))] ∧ sz + 4 ≤ t.heap.size) (va_A [(h0, .inr (7, [.ref oB, .ref oP])), (oP, .inr (5, [.ref ar, .ref oB, .ref oS, .int 0, .int 0, .int 0, .int ve, .int 0, .int 0])), (oB, .inr (0, [.ref am, .ref oM, .ref oS, .ref oK, .ref oL, .ref oD])), (oS, .inr (6, [.int 224, .int (-1)])), (oM, .inr (3, [.ref ad, .ref ab, .int 0])), (am, .inl (tm, 512, .inl f)), (ar, .inl (tr, 8, .inl g)), (oL, .inr (4, [.int 128, .int 0, .ref ap, .int 0, .int 0, .int 0, .int 0])), (oD, .inr (1, [.int 128, .int 0, .ref aw, .int 0, .int 0, .int 0, .int 0, .int 0, .int 0, .int 0])), (oK, .inr (2, [.int 0, .int 0, .int 0]))] sz)) 4 24 (va_A [(h0, .inr (7, [.ref oB, .ref oP])), (oP, .inr (5, [.ref ar, .ref oB, .ref oS, .int 0, .int 0, .int 0, .int ve, .int 0, .int 0])), (oB, .inr (0, [.ref am, .ref oM, .ref oS, .ref oK, .ref oL, .ref oD])), (oS, .inr (6, [.int 224, .int (-1)])), (oM, .inr (3, [.ref ad, .ref ab, .int 0])), (am, .inl (tm, 512, .inl f)), (ar, .inl (tr, 8, .inl g)), (oL, .inr (4, [.int 128, .int 0, .ref ap, .int 0, .int 0, .int 0, .int 0])), (oD, .inr (1, [.int 128, .int 0, .ref aw, .int 0, .int 0, .int 0, .int 0, .int 0, .int 0, .int 0])), (oK, .inr (2, [.int 0, .int 0, .int 0]))] sz) := by
  refine Met.ofW (cc := cX8_run) (maxL := 3) (ret := (some .int)) (by decide) rfl ?_
  intro p e s m args below meth c s₁ B hml hv
  obtain ⟨rfl, hsz, hP, hK, hD0, hZU, hZN, hd1, hd2, hd3, hcU⟩ := hv
  have hx := B.exec
  have hb := B.bytes
  have hr := B.returns
  have hts := atoms_spec (ws := wsX8_run) B.pre
  have hown : s.vm.findClass RX8 = some m.cls := findClass_of_methodNamed B.named
  have hlocks := B.notSynchronized
  have hD := hD0.self (sz := sz)
  generalize hAe : va_A [(h0, .inr (7, [.ref oB, .ref oP])), (oP, .inr (5, [.ref ar, .ref oB, .ref oS, .int 0, .int 0, .int 0, .int ve, .int 0, .int 0])), (oB, .inr (0, [.ref am, .ref oM, .ref oS, .ref oK, .ref oL, .ref oD])), (oS, .inr (6, [.int 224, .int (-1)])), (oM, .inr (3, [.ref ad, .ref ab, .int 0])), (am, .inl (tm, 512, .inl f)), (ar, .inl (tr, 8, .inl g)), (oL, .inr (4, [.int 128, .int 0, .ref ap, .int 0, .int 0, .int 0, .int 0])), (oD, .inr (1, [.int 128, .int 0, .ref aw, .int 0, .int 0, .int 0, .int 0, .int 0, .int 0, .int 0])), (oK, .inr (2, [.int 0, .int 0, .int 0]))] sz = A at hD hZU hZN ⊢
  have hA : ∀ q : Nat, s.heap.size ≤ q → A q := fun q h => by rw [← hAe]; exact Or.inr (by omega)
  have hS0 : ∀ G : Heap, s.heap = G → va_S A s.heap G [] := fun G h => by subst h; exact va_S.rf
  generalize hHe : s.heap = H at hP ⊢
  have hS := hS0 H hHe
  have hP : va_P (dC, dI) vwCl [(h0, .inr (7, [.ref oB, .ref oP])), (oP, .inr (5, [.ref ar, .ref oB, .ref oS, .int 0, .int 0, .int 0, .int ve, .int 0, .int 0])), (oB, .inr (0, [.ref am, .ref oM, .ref oS, .ref oK, .ref oL, .ref oD])), (oS, .inr (6, [.int 224, .int (-1)])), (oM, .inr (3, [.ref ad, .ref ab, .int 0])), (am, .inl (tm, 512, .inl f)), (ar, .inl (tr, 8, .inl g)), (oL, .inr (4, [.int 128, .int 0, .ref ap, .int 0, .int 0, .int 0, .int 0])), (oD, .inr (1, [.int 128, .int 0, .ref aw, .int 0, .int 0, .int 0, .int 0, .int 0, .int 0, .int 0])), (oK, .inr (2, [.int 0, .int 0, .int 0]))] H := hP
  have hD : va_D A [(h0, .inr (7, [.ref oB, .ref oP])), (oP, .inr (5, [.ref ar, .ref oB, .ref oS, .int 0, .int 0, .int 0, .int ve, .int 0, .int 0])), (oB, .inr (0, [.ref am, .ref oM, .ref oS, .ref oK, .ref oL, .ref oD])), (oS, .inr (6, [.int 224, .int (-1)])), (oM, .inr (3, [.ref ad, .ref ab, .int 0])), (am, .inl (tm, 512, .inl f)), (ar, .inl (tr, 8, .inl g)), (oL, .inr (4, [.int 128, .int 0, .ref ap, .int 0, .int 0, .int 0, .int 0])), (oD, .inr (1, [.int 128, .int 0, .ref aw, .int 0, .int 0, .int 0, .int 0, .int 0, .int 0, .int 0])), (oK, .inr (2, [.int 0, .int 0, .int 0]))] := hD
  have hK : va_K (dC, dI) vwCl [(tm, .int), (tr, .int)] s := hK
  have hl := lv_entry ([.ref h0, .int 4]) (n := 3) (Nat.le_of_ble_eq_true rfl)
  rw [lg_entry_eq]
  generalize (lg_sl ([.ref h0, .int 4]) ++ List.replicate (3 - (lg_sl ([.ref h0, .int 4])).length) Slot.unset).toArray = ls at hl ⊢
  have hl : lv_has ls 3 [(0, .ref h0), (1, .int 4)] := hl
  refine lv_iload_n hx hb dX8_run_0 rfl (lv_at hl 1 rfl) ?_
  refine lv_iconst (v := 1) hx hb dX8_run_1 (by decide) ?_
  refine lv_icmp_lt (tgt := 11) hx hb dX8_run_2 (by decide) (fun c1 => ?_) (fun c1 => ?_)
  · exact absurd c1 (by decide)
  · skip
    refine lv_iload_n hx hb dX8_run_5 rfl (lv_at hl 1 rfl) ?_
    refine lv_bipush (v := 40) hx hb dX8_run_6 (by decide) ?_
    refine lv_icmp_le (tgt := 19) hx hb dX8_run_8 (by decide) (fun c2 => ?_) (fun c2 => ?_)
    · skip
      refine lv_aload_n hx hb dX8_run_19 rfl (lv_at hl 0 rfl) ?_
      refine va_get (D := (dC, dI)) (ci := 7) (v := .ref oP) (C := RX8) (T := TX8) (N := 2) hx hb hts (by decide +kernel) hown hK hP 0 rfl rfl 1 (by decide) (hts (.fieldLink RX8 21 "UnibusMachine" "processor" "LUnibusMachine$Processor;") (by decide +kernel)) (fun _ h9 => h9) rfl dX8_run_20 ?_
      refine va_get (D := (dC, dI)) (ci := 5) (v := .int 0) (C := RX6) (T := TX6) (N := 9) hx hb hts (by decide +kernel) hown hK hP 1 rfl rfl 4 (by decide) (hts (.fieldLink RX8 63 "UnibusMachine$Processor" "halted" "I") (by decide +kernel)) (fun _ h9 => h9) rfl dX8_run_23 ?_
      refine lv_if_eq (tgt := 37) hx hb dX8_run_26 (by decide) (fun c3 => ?_) (fun c3 => ?_)
      · skip
        refine lv_iconst (v := 1) hx hb dX8_run_37 (by decide) ?_
        refine lv_istore_n (lv' := [(2, .int 1), (0, .ref h0), (1, .int 4)]) hx hb dX8_run_38 rfl hl (by decide) rfl (fun ls hl => ?_)
        refine lv_iload_n hx hb dX8_run_39 rfl (lv_at hl 0 rfl) ?_
        refine lv_iload_n hx hb dX8_run_40 rfl (lv_at hl 2 rfl) ?_
        refine lv_icmp_gt (tgt := 93) hx hb dX8_run_41 (by decide) (fun c4 => ?_) (fun c4 => ?_)
        · exact absurd c4 (by decide)
        · skip
          refine lv_aload_n hx hb dX8_run_44 rfl (lv_at hl 1 rfl) ?_
          refine va_get (D := (dC, dI)) (ci := 7) (v := .ref oP) (C := RX8) (T := TX8) (N := 2) hx hb hts (by decide +kernel) hown hK hP 0 rfl rfl 1 (by decide) (hts (.fieldLink RX8 21 "UnibusMachine" "processor" "LUnibusMachine$Processor;") (by decide +kernel)) (fun _ h9 => h9) rfl dX8_run_45 ?_
          have hPc := hP.sub (ws' := [(oP, .inr (5, [.ref ar, .ref oB, .ref oS, .int 0, .int 0, .int 0, .int ve, .int 0, .int 0])), (oB, .inr (0, [.ref am, .ref oM, .ref oS, .ref oK, .ref oL, .ref oD])), (oS, .inr (6, [.int 224, .int (-1)])), (oM, .inr (3, [.ref ad, .ref ab, .int 0])), (am, .inl (tm, 512, .inl f)), (ar, .inl (tr, 8, .inl g)), (oL, .inr (4, [.int 128, .int 0, .ref ap, .int 0, .int 0, .int 0, .int 0])), (oD, .inr (1, [.int 128, .int 0, .ref aw, .int 0, .int 0, .int 0, .int 0, .int 0, .int 0, .int 0]))]) [1, 2, 3, 4, 5, 6, 7, 8] rfl
          have hDc := hD.sub (ws' := [(oP, .inr (5, [.ref ar, .ref oB, .ref oS, .int 0, .int 0, .int 0, .int ve, .int 0, .int 0])), (oB, .inr (0, [.ref am, .ref oM, .ref oS, .ref oK, .ref oL, .ref oD])), (oS, .inr (6, [.int 224, .int (-1)])), (oM, .inr (3, [.ref ad, .ref ab, .int 0])), (am, .inl (tm, 512, .inl f)), (ar, .inl (tr, 8, .inl g)), (oL, .inr (4, [.int 128, .int 0, .ref ap, .int 0, .int 0, .int 0, .int 0])), (oD, .inr (1, [.int 128, .int 0, .ref aw, .int 0, .int 0, .int 0, .int 0, .int 0, .int 0, .int 0]))]) [1, 2, 3, 4, 5, 6, 7, 8] (by decide) rfl
          have hKc := hK.sub (tys' := [(tm, .int), (tr, .int)]) [0, 1] rfl
          have hFc := va_free (wc := [(oP, .inr (5, [.ref ar, .ref oB, .ref oS, .int 0, .int 0, .int 0, .int ve, .int 0, .int 0])), (oB, .inr (0, [.ref am, .ref oM, .ref oS, .ref oK, .ref oL, .ref oD])), (oS, .inr (6, [.int 224, .int (-1)])), (oM, .inr (3, [.ref ad, .ref ab, .int 0])), (am, .inl (tm, 512, .inl f)), (ar, .inl (tr, 8, .inl g)), (oL, .inr (4, [.int 128, .int 0, .ref ap, .int 0, .int 0, .int 0, .int 0])), (oD, .inr (1, [.int 128, .int 0, .ref aw, .int 0, .int 0, .int 0, .int 0, .int 0, .int 0, .int 0]))]) hD hS hA [1, 2, 3, 4, 5, 6, 7, 8] rfl
          have hSz := hS.1
          refine va_callv (vx_runVW (As := []) (rest := []) ⟨hx, hb, hml, hown, hts⟩ (c_perform l dC dI oP ar oB oS ve am oM oK oL oD ad ab tm f tr g z ap aw H.size hlt (by first | assumption | omega | decide) (by first | assumption | omega | decide) (by first | assumption | omega | decide) (by first | assumption | omega | decide) (by first | assumption | omega | decide) (by first | assumption | omega | decide) (by first | assumption | omega | decide)) (vx_cwVW 0 hts gX8_run_X6_perform rfl rfl rfl (by decide +kernel) ⟨Nat.le_of_ble_eq_true rfl, Nat.le_of_ble_eq_true rfl⟩) ⟨fun a U g mk q => by obtain ⟨q0, q1, qP, qK, qD, e0, e1, e2, e3, e4, e5⟩ := q; exact ⟨q0, q1, qP, va_K.moved (u := U) (U := U.calling g mk a) (Vm.Alike.refl U.vm) qK, qD, vx_Zq.moved (u := U) (U := U.calling g mk a) (Vm.Alike.refl U.vm) e0, vx_Zq.moved (u := U) (U := U.calling g mk a) (Vm.Alike.refl U.vm) e1, va_Nw.same (U := U.calling g mk a) rfl rfl e2, va_Nw.same (U := U.calling g mk a) rfl rfl e3, va_Nw.same (U := U.calling g mk a) rfl rfl e4, va_Nw.same (U := U.calling g mk a) rfl rfl e5⟩, va_recv hKc hPc (ci := 5) (q0 := 0) rfl rfl, fun U hU hW => ⟨rfl, by rw [hU], by rw [hU]; exact hPc, va_K.moved hW.alike hKc, hDc.weaken (fun _ _ _ _ => trivial), by rw [hU]; exact vx_Zq.moved hW.alike (vx_Zq.narrow (vx_Zq.kept hZU hS.2.1) hFc), by rw [hU]; exact vx_Zq.moved hW.alike (vx_Zq.narrow (vx_Zq.kept hZN hS.2.1) hFc), va_Nw.warmD hW hd1, va_Nw.warmD hW hd2, va_Nw.warmD hW hd3, va_Nw.warmC hW hcU⟩⟩ rfl rfl hl.1 rfl (lv_room (Nat.le_of_ble_eq_true rfl)) dX8_run_48 ⟨Nat.le_of_ble_eq_true rfl, Nat.le_of_ble_eq_true rfl⟩) hS (fun q _ h => hFc q h) hFc (fun u6 t H1 locs ht hvm hw hB hz1 hk1 hS => ?_)
          obtain ⟨hP1, hK1, hD1, hg1⟩ := hB
          rw [ht] at hP1 hg1
          have hK1 := va_K.moved hvm.symm hK1
          try dsimp only at hw
          obtain ⟨hP, hD⟩ := va_join (wr := [(h0, .inr (7, [.ref oB, .ref oP])), (oK, .inr (2, [.int 0, .int 0, .int 0]))]) (w1 := [(oP, .inr (5, [.ref ar, .ref oB, .ref oS, .int 0, .int 0, .int 0, .int 4, .int 0, .int 0])), (oB, .inr (0, [.ref am, .ref oM, .ref oS, .ref oK, .ref oL, .ref oD])), (oS, .inr (6, [.int 224, .int (-1)])), (oM, .inr (3, [.ref ad, .ref ab, .int 0])), (am, .inl (tm, 512, .inl u6.1)), (ar, .inl (tr, 8, .inl u6.2)), (oL, .inr (4, [.int 128, .int 0, .ref ap, .int 0, .int 0, .int 0, .int 0])), (oD, .inr (1, [.int 128, .int 0, .ref aw, .int 0, .int 0, .int 0, .int 0, .int 0, .int 0, .int 0]))]) hP hD [1, 2, 3, 4, 5, 6, 7, 8] [0, 9] rfl rfl (by decide) (by decide) hk1 hFc hP1 hD1
          have hK := (hK.sub (tys' := []) [] rfl).app hK1
          have hgr : sz + 1 ≤ H1.size := by omega
          generalize H1 = H at hP hS hgr ⊢
          have hP : va_P (dC, dI) vwCl [(h0, .inr (7, [.ref oB, .ref oP])), (oK, .inr (2, [.int 0, .int 0, .int 0])), (oP, .inr (5, [.ref ar, .ref oB, .ref oS, .int 0, .int 0, .int 0, .int 4, .int 0, .int 0])), (oB, .inr (0, [.ref am, .ref oM, .ref oS, .ref oK, .ref oL, .ref oD])), (oS, .inr (6, [.int 224, .int (-1)])), (oM, .inr (3, [.ref ad, .ref ab, .int 0])), (am, .inl (tm, 512, .inl u6.1)), (ar, .inl (tr, 8, .inl u6.2)), (oL, .inr (4, [.int 128, .int 0, .ref ap, .int 0, .int 0, .int 0, .int 0])), (oD, .inr (1, [.int 128, .int 0, .ref aw, .int 0, .int 0, .int 0, .int 0, .int 0, .int 0, .int 0]))] H := hP
          have hD : va_D A [(h0, .inr (7, [.ref oB, .ref oP])), (oK, .inr (2, [.int 0, .int 0, .int 0])), (oP, .inr (5, [.ref ar, .ref oB, .ref oS, .int 0, .int 0, .int 0, .int 4, .int 0, .int 0])), (oB, .inr (0, [.ref am, .ref oM, .ref oS, .ref oK, .ref oL, .ref oD])), (oS, .inr (6, [.int 224, .int (-1)])), (oM, .inr (3, [.ref ad, .ref ab, .int 0])), (am, .inl (tm, 512, .inl u6.1)), (ar, .inl (tr, 8, .inl u6.2)), (oL, .inr (4, [.int 128, .int 0, .ref ap, .int 0, .int 0, .int 0, .int 0])), (oD, .inr (1, [.int 128, .int 0, .ref aw, .int 0, .int 0, .int 0, .int 0, .int 0, .int 0, .int 0]))] := hD
          have hK : va_K (dC, dI) vwCl [(tm, .int), (tr, .int)] s := hK
          refine W.widen (k := 1) (n := 6) (Nat.le_of_ble_eq_true rfl) (Nat.le_of_ble_eq_true rfl) ?_
          obtain ⟨_, _, _, _⟩ := hw
          refine lv_aload_n hx hb dX8_run_51 rfl (lv_at hl 1 rfl) ?_
          refine va_get (D := (dC, dI)) (ci := 7) (v := .ref oP) (C := RX8) (T := TX8) (N := 2) hx hb hts (by decide +kernel) hown hK hP 0 rfl rfl 1 (by decide) (hts (.fieldLink RX8 21 "UnibusMachine" "processor" "LUnibusMachine$Processor;") (by decide +kernel)) (fun _ h9 => h9) rfl dX8_run_52 ?_
          refine va_get (D := (dC, dI)) (ci := 5) (v := .int 0) (C := RX6) (T := TX6) (N := 9) hx hb hts (by decide +kernel) hown hK hP 2 rfl rfl 4 (by decide) (hts (.fieldLink RX8 63 "UnibusMachine$Processor" "halted" "I") (by decide +kernel)) (fun _ h9 => h9) rfl dX8_run_55 ?_
          refine lv_if_ne (tgt := 75) hx hb dX8_run_58 (by decide) (fun c7 => ?_) (fun c7 => ?_)
          · exact absurd c7 (by decide)
          · skip
            refine lv_aload_n hx hb dX8_run_61 rfl (lv_at hl 1 rfl) ?_
            refine va_get (D := (dC, dI)) (ci := 7) (v := .ref oB) (C := RX8) (T := TX8) (N := 2) hx hb hts (by decide +kernel) hown hK hP 0 rfl rfl 0 (by decide) (hts (.fieldLink RX8 10 "UnibusMachine" "bus" "LUnibusMachine$Bus;") (by decide +kernel)) (fun _ h9 => h9) rfl dX8_run_62 ?_
            have hPc := hP.sub (ws' := [(oB, .inr (0, [.ref am, .ref oM, .ref oS, .ref oK, .ref oL, .ref oD])), (oL, .inr (4, [.int 128, .int 0, .ref ap, .int 0, .int 0, .int 0, .int 0])), (oD, .inr (1, [.int 128, .int 0, .ref aw, .int 0, .int 0, .int 0, .int 0, .int 0, .int 0, .int 0]))]) [3, 8, 9] rfl
            have hDc := hD.sub (ws' := [(oB, .inr (0, [.ref am, .ref oM, .ref oS, .ref oK, .ref oL, .ref oD])), (oL, .inr (4, [.int 128, .int 0, .ref ap, .int 0, .int 0, .int 0, .int 0])), (oD, .inr (1, [.int 128, .int 0, .ref aw, .int 0, .int 0, .int 0, .int 0, .int 0, .int 0, .int 0]))]) [3, 8, 9] (by decide) rfl
            have hKc := hK.sub (tys' := []) [] rfl
            have hFc := va_free (wc := [(oB, .inr (0, [.ref am, .ref oM, .ref oS, .ref oK, .ref oL, .ref oD])), (oL, .inr (4, [.int 128, .int 0, .ref ap, .int 0, .int 0, .int 0, .int 0])), (oD, .inr (1, [.int 128, .int 0, .ref aw, .int 0, .int 0, .int 0, .int 0, .int 0, .int 0, .int 0]))]) hD hS hA [3, 8, 9] rfl
            have hSz := hS.1
            refine va_callv (va_runV (As := []) (rest := []) ⟨hx, hb, hml, hown, hts⟩ (c_goOn l dC dI oB am oM oS oK oL oD ap aw H.size) (cwV 0 hts gX8_run_X0_goOn rfl rfl rfl (by decide +kernel) ⟨Nat.le_of_ble_eq_true rfl, Nat.le_of_ble_eq_true rfl⟩) ⟨fun a U g mk q => by obtain ⟨q0, q1, qP, qK, qD⟩ := q; exact ⟨q0, q1, qP, va_K.moved (u := U) (U := U.calling g mk a) (Vm.Alike.refl U.vm) qK, qD⟩, va_recv hKc hPc (ci := 0) (q0 := 0) rfl rfl, fun U hU hW => ⟨rfl, by rw [hU], by rw [hU]; exact hPc, va_K.moved hW.alike hKc, hDc.weaken (fun _ _ _ _ => trivial)⟩⟩ rfl rfl hl.1 rfl (lv_room (Nat.le_of_ble_eq_true rfl)) dX8_run_65 ⟨Nat.le_of_ble_eq_true rfl, Nat.le_of_ble_eq_true rfl⟩) hS (fun q _ h => hFc q h) hFc (fun u9 t H1 locs ht hvm hw hB hz1 hk1 hS => ?_)
            obtain ⟨hP1, hK1, hD1⟩ := hB
            rw [ht] at hP1
            have hK1 := va_K.moved hvm.symm hK1
            try dsimp only at hw
            obtain ⟨hP, hD⟩ := va_join (wr := [(h0, .inr (7, [.ref oB, .ref oP])), (oK, .inr (2, [.int 0, .int 0, .int 0])), (oP, .inr (5, [.ref ar, .ref oB, .ref oS, .int 0, .int 0, .int 0, .int 4, .int 0, .int 0])), (oS, .inr (6, [.int 224, .int (-1)])), (oM, .inr (3, [.ref ad, .ref ab, .int 0])), (am, .inl (tm, 512, .inl u6.1)), (ar, .inl (tr, 8, .inl u6.2))]) (w1 := [(oB, .inr (0, [.ref am, .ref oM, .ref oS, .ref oK, .ref oL, .ref oD])), (oL, .inr (4, [.int 128, .int 0, .ref ap, .int 0, .int 0, .int 0, .int 0])), (oD, .inr (1, [.int 128, .int 0, .ref aw, .int 0, .int 0, .int 0, .int 0, .int 0, .int 0, .int 0]))]) hP hD [3, 8, 9] [0, 1, 2, 4, 5, 6, 7] rfl rfl (by decide) (by decide) hk1 hFc hP1 hD1
            have hK := (hK.sub (tys' := [(tm, .int), (tr, .int)]) [0, 1] rfl).app hK1
            have hgr : sz + 1 ≤ H1.size := by omega
            generalize H1 = H at hP hS hgr ⊢
            have hP : va_P (dC, dI) vwCl [(h0, .inr (7, [.ref oB, .ref oP])), (oK, .inr (2, [.int 0, .int 0, .int 0])), (oP, .inr (5, [.ref ar, .ref oB, .ref oS, .int 0, .int 0, .int 0, .int 4, .int 0, .int 0])), (oS, .inr (6, [.int 224, .int (-1)])), (oM, .inr (3, [.ref ad, .ref ab, .int 0])), (am, .inl (tm, 512, .inl u6.1)), (ar, .inl (tr, 8, .inl u6.2)), (oB, .inr (0, [.ref am, .ref oM, .ref oS, .ref oK, .ref oL, .ref oD])), (oL, .inr (4, [.int 128, .int 0, .ref ap, .int 0, .int 0, .int 0, .int 0])), (oD, .inr (1, [.int 128, .int 0, .ref aw, .int 0, .int 0, .int 0, .int 0, .int 0, .int 0, .int 0]))] H := hP
            have hD : va_D A [(h0, .inr (7, [.ref oB, .ref oP])), (oK, .inr (2, [.int 0, .int 0, .int 0])), (oP, .inr (5, [.ref ar, .ref oB, .ref oS, .int 0, .int 0, .int 0, .int 4, .int 0, .int 0])), (oS, .inr (6, [.int 224, .int (-1)])), (oM, .inr (3, [.ref ad, .ref ab, .int 0])), (am, .inl (tm, 512, .inl u6.1)), (ar, .inl (tr, 8, .inl u6.2)), (oB, .inr (0, [.ref am, .ref oM, .ref oS, .ref oK, .ref oL, .ref oD])), (oL, .inr (4, [.int 128, .int 0, .ref ap, .int 0, .int 0, .int 0, .int 0])), (oD, .inr (1, [.int 128, .int 0, .ref aw, .int 0, .int 0, .int 0, .int 0, .int 0, .int 0, .int 0]))] := hD
            have hK : va_K (dC, dI) vwCl [(tm, .int), (tr, .int)] s := hK
            refine W.widen (k := 1) (n := 6) (Nat.le_of_ble_eq_true rfl) (Nat.le_of_ble_eq_true rfl) ?_
            refine lv_aload_n hx hb dX8_run_68 rfl (lv_at hl 1 rfl) ?_
            refine va_get (D := (dC, dI)) (ci := 7) (v := .ref oP) (C := RX8) (T := TX8) (N := 2) hx hb hts (by decide +kernel) hown hK hP 0 rfl rfl 1 (by decide) (hts (.fieldLink RX8 21 "UnibusMachine" "processor" "LUnibusMachine$Processor;") (by decide +kernel)) (fun _ h9 => h9) rfl dX8_run_69 ?_
            have hPc := hP.sub (ws' := [(oP, .inr (5, [.ref ar, .ref oB, .ref oS, .int 0, .int 0, .int 0, .int 4, .int 0, .int 0])), (oB, .inr (0, [.ref am, .ref oM, .ref oS, .ref oK, .ref oL, .ref oD])), (oS, .inr (6, [.int 224, .int (-1)])), (oD, .inr (1, [.int 128, .int 0, .ref aw, .int 0, .int 0, .int 0, .int 0, .int 0, .int 0, .int 0])), (oK, .inr (2, [.int 0, .int 0, .int 0])), (oL, .inr (4, [.int 128, .int 0, .ref ap, .int 0, .int 0, .int 0, .int 0]))]) [2, 7, 3, 9, 1, 8] rfl
            have hDc := hD.sub (ws' := [(oP, .inr (5, [.ref ar, .ref oB, .ref oS, .int 0, .int 0, .int 0, .int 4, .int 0, .int 0])), (oB, .inr (0, [.ref am, .ref oM, .ref oS, .ref oK, .ref oL, .ref oD])), (oS, .inr (6, [.int 224, .int (-1)])), (oD, .inr (1, [.int 128, .int 0, .ref aw, .int 0, .int 0, .int 0, .int 0, .int 0, .int 0, .int 0])), (oK, .inr (2, [.int 0, .int 0, .int 0])), (oL, .inr (4, [.int 128, .int 0, .ref ap, .int 0, .int 0, .int 0, .int 0]))]) [2, 7, 3, 9, 1, 8] (by decide) rfl
            have hKc := hK.sub (tys' := []) [] rfl
            have hFc := va_free (wc := [(oP, .inr (5, [.ref ar, .ref oB, .ref oS, .int 0, .int 0, .int 0, .int 4, .int 0, .int 0])), (oB, .inr (0, [.ref am, .ref oM, .ref oS, .ref oK, .ref oL, .ref oD])), (oS, .inr (6, [.int 224, .int (-1)])), (oD, .inr (1, [.int 128, .int 0, .ref aw, .int 0, .int 0, .int 0, .int 0, .int 0, .int 0, .int 0])), (oK, .inr (2, [.int 0, .int 0, .int 0])), (oL, .inr (4, [.int 128, .int 0, .ref ap, .int 0, .int 0, .int 0, .int 0]))]) hD hS hA [2, 7, 3, 9, 1, 8] rfl
            have hSz := hS.1
            refine va_callv (va_runV (As := []) (rest := []) ⟨hx, hb, hml, hown, hts⟩ (c_look l dC dI oP ar oB oS 4 am oM oK oL oD ap aw H.size) (cwV 0 hts gX8_run_X6_lookForInterrupt rfl rfl rfl (by decide +kernel) ⟨Nat.le_of_ble_eq_true rfl, Nat.le_of_ble_eq_true rfl⟩) ⟨fun a U g mk q => by obtain ⟨q0, q1, qP, qK, qD⟩ := q; exact ⟨q0, q1, qP, va_K.moved (u := U) (U := U.calling g mk a) (Vm.Alike.refl U.vm) qK, qD⟩, va_recv hKc hPc (ci := 5) (q0 := 0) rfl rfl, fun U hU hW => ⟨rfl, by rw [hU], by rw [hU]; exact hPc, va_K.moved hW.alike hKc, hDc.weaken (fun _ _ _ _ => trivial)⟩⟩ rfl rfl hl.1 rfl (lv_room (Nat.le_of_ble_eq_true rfl)) dX8_run_72 ⟨Nat.le_of_ble_eq_true rfl, Nat.le_of_ble_eq_true rfl⟩) hS (fun q _ h => hFc q h) hFc (fun u11 t H1 locs ht hvm hw hB hz1 hk1 hS => ?_)
            obtain ⟨hP1, hK1, hD1⟩ := hB
            rw [ht] at hP1
            have hK1 := va_K.moved hvm.symm hK1
            try dsimp only at hw
            obtain ⟨hP, hD⟩ := va_join (wr := [(h0, .inr (7, [.ref oB, .ref oP])), (oM, .inr (3, [.ref ad, .ref ab, .int 0])), (am, .inl (tm, 512, .inl u6.1)), (ar, .inl (tr, 8, .inl u6.2))]) (w1 := [(oP, .inr (5, [.ref ar, .ref oB, .ref oS, .int 0, .int 0, .int 0, .int 4, .int 0, .int 0])), (oB, .inr (0, [.ref am, .ref oM, .ref oS, .ref oK, .ref oL, .ref oD])), (oS, .inr (6, [.int 224, .int (-1)])), (oD, .inr (1, [.int 128, .int 0, .ref aw, .int 0, .int 0, .int 0, .int 0, .int 0, .int 0, .int 0])), (oK, .inr (2, [.int 0, .int 0, .int 0])), (oL, .inr (4, [.int 128, .int 0, .ref ap, .int 0, .int 0, .int 0, .int 0]))]) hP hD [2, 7, 3, 9, 1, 8] [0, 4, 5, 6] rfl rfl (by decide) (by decide) hk1 hFc hP1 hD1
            have hK := (hK.sub (tys' := [(tm, .int), (tr, .int)]) [0, 1] rfl).app hK1
            have hgr : sz + 1 ≤ H1.size := by omega
            generalize H1 = H at hP hS hgr ⊢
            have hP : va_P (dC, dI) vwCl [(h0, .inr (7, [.ref oB, .ref oP])), (oM, .inr (3, [.ref ad, .ref ab, .int 0])), (am, .inl (tm, 512, .inl u6.1)), (ar, .inl (tr, 8, .inl u6.2)), (oP, .inr (5, [.ref ar, .ref oB, .ref oS, .int 0, .int 0, .int 0, .int 4, .int 0, .int 0])), (oB, .inr (0, [.ref am, .ref oM, .ref oS, .ref oK, .ref oL, .ref oD])), (oS, .inr (6, [.int 224, .int (-1)])), (oD, .inr (1, [.int 128, .int 0, .ref aw, .int 0, .int 0, .int 0, .int 0, .int 0, .int 0, .int 0])), (oK, .inr (2, [.int 0, .int 0, .int 0])), (oL, .inr (4, [.int 128, .int 0, .ref ap, .int 0, .int 0, .int 0, .int 0]))] H := hP
            have hD : va_D A [(h0, .inr (7, [.ref oB, .ref oP])), (oM, .inr (3, [.ref ad, .ref ab, .int 0])), (am, .inl (tm, 512, .inl u6.1)), (ar, .inl (tr, 8, .inl u6.2)), (oP, .inr (5, [.ref ar, .ref oB, .ref oS, .int 0, .int 0, .int 0, .int 4, .int 0, .int 0])), (oB, .inr (0, [.ref am, .ref oM, .ref oS, .ref oK, .ref oL, .ref oD])), (oS, .inr (6, [.int 224, .int (-1)])), (oD, .inr (1, [.int 128, .int 0, .ref aw, .int 0, .int 0, .int 0, .int 0, .int 0, .int 0, .int 0])), (oK, .inr (2, [.int 0, .int 0, .int 0])), (oL, .inr (4, [.int 128, .int 0, .ref ap, .int 0, .int 0, .int 0, .int 0]))] := hD
            have hK : va_K (dC, dI) vwCl [(tm, .int), (tr, .int)] s := hK
            refine W.widen (k := 1) (n := 6) (Nat.le_of_ble_eq_true rfl) (Nat.le_of_ble_eq_true rfl) ?_
            refine lv_aload_n hx hb dX8_run_75 rfl (lv_at hl 1 rfl) ?_
            refine va_get (D := (dC, dI)) (ci := 7) (v := .ref oP) (C := RX8) (T := TX8) (N := 2) hx hb hts (by decide +kernel) hown hK hP 0 rfl rfl 1 (by decide) (hts (.fieldLink RX8 21 "UnibusMachine" "processor" "LUnibusMachine$Processor;") (by decide +kernel)) (fun _ h9 => h9) rfl dX8_run_76 ?_
            refine va_get (D := (dC, dI)) (ci := 5) (v := .int 0) (C := RX6) (T := TX6) (N := 9) hx hb hts (by decide +kernel) hown hK hP 4 rfl rfl 4 (by decide) (hts (.fieldLink RX8 63 "UnibusMachine$Processor" "halted" "I") (by decide +kernel)) (fun _ h9 => h9) rfl dX8_run_79 ?_
            refine lv_if_eq (tgt := 87) hx hb dX8_run_82 (by decide) (fun c12 => ?_) (fun c12 => ?_)
            · skip
              refine lv_iinc (v := 2) (lv' := [(2, .int 2), (0, .ref h0), (1, .int 4)]) hx hb dX8_run_87 hl (k := 0) rfl (by decide) (by decide) rfl (fun ls hl => ?_)
              refine lv_goto (tgt := 39) hx hb dX8_run_90 (by decide) ?_
              refine lv_iload_n hx hb dX8_run_39 rfl (lv_at hl 0 rfl) ?_
              refine lv_iload_n hx hb dX8_run_40 rfl (lv_at hl 2 rfl) ?_
              refine lv_icmp_gt (tgt := 93) hx hb dX8_run_41 (by decide) (fun c13 => ?_) (fun c13 => ?_)
              · exact absurd c13 (by decide)
              · skip
                refine lv_aload_n hx hb dX8_run_44 rfl (lv_at hl 1 rfl) ?_
                refine va_get (D := (dC, dI)) (ci := 7) (v := .ref oP) (C := RX8) (T := TX8) (N := 2) hx hb hts (by decide +kernel) hown hK hP 0 rfl rfl 1 (by decide) (hts (.fieldLink RX8 21 "UnibusMachine" "processor" "LUnibusMachine$Processor;") (by decide +kernel)) (fun _ h9 => h9) rfl dX8_run_45 ?_
                have hPc := hP.sub (ws' := [(oP, .inr (5, [.ref ar, .ref oB, .ref oS, .int 0, .int 0, .int 0, .int 4, .int 0, .int 0])), (oB, .inr (0, [.ref am, .ref oM, .ref oS, .ref oK, .ref oL, .ref oD])), (oS, .inr (6, [.int 224, .int (-1)])), (oM, .inr (3, [.ref ad, .ref ab, .int 0])), (am, .inl (tm, 512, .inl u6.1)), (ar, .inl (tr, 8, .inl u6.2)), (oL, .inr (4, [.int 128, .int 0, .ref ap, .int 0, .int 0, .int 0, .int 0])), (oD, .inr (1, [.int 128, .int 0, .ref aw, .int 0, .int 0, .int 0, .int 0, .int 0, .int 0, .int 0]))]) [4, 5, 6, 1, 2, 3, 9, 7] rfl
                have hDc := hD.sub (ws' := [(oP, .inr (5, [.ref ar, .ref oB, .ref oS, .int 0, .int 0, .int 0, .int 4, .int 0, .int 0])), (oB, .inr (0, [.ref am, .ref oM, .ref oS, .ref oK, .ref oL, .ref oD])), (oS, .inr (6, [.int 224, .int (-1)])), (oM, .inr (3, [.ref ad, .ref ab, .int 0])), (am, .inl (tm, 512, .inl u6.1)), (ar, .inl (tr, 8, .inl u6.2)), (oL, .inr (4, [.int 128, .int 0, .ref ap, .int 0, .int 0, .int 0, .int 0])), (oD, .inr (1, [.int 128, .int 0, .ref aw, .int 0, .int 0, .int 0, .int 0, .int 0, .int 0, .int 0]))]) [4, 5, 6, 1, 2, 3, 9, 7] (by decide) rfl
                have hKc := hK.sub (tys' := [(tm, .int), (tr, .int)]) [0, 1] rfl
                have hFc := va_free (wc := [(oP, .inr (5, [.ref ar, .ref oB, .ref oS, .int 0, .int 0, .int 0, .int 4, .int 0, .int 0])), (oB, .inr (0, [.ref am, .ref oM, .ref oS, .ref oK, .ref oL, .ref oD])), (oS, .inr (6, [.int 224, .int (-1)])), (oM, .inr (3, [.ref ad, .ref ab, .int 0])), (am, .inl (tm, 512, .inl u6.1)), (ar, .inl (tr, 8, .inl u6.2)), (oL, .inr (4, [.int 128, .int 0, .ref ap, .int 0, .int 0, .int 0, .int 0])), (oD, .inr (1, [.int 128, .int 0, .ref aw, .int 0, .int 0, .int 0, .int 0, .int 0, .int 0, .int 0]))]) hD hS hA [4, 5, 6, 1, 2, 3, 9, 7] rfl
                have hSz := hS.1
                refine va_callv (vx_runVW (As := []) (rest := []) ⟨hx, hb, hml, hown, hts⟩ (c_perform l dC dI oP ar oB oS 4 am oM oK oL oD ad ab tm u6.1 tr u6.2 (z - 4) ap aw H.size hlt (by first | assumption | omega | decide) (by first | assumption | omega | decide) (by first | assumption | omega | decide) (by first | assumption | omega | decide) (by first | assumption | omega | decide) (by first | assumption | omega | decide) (by first | assumption | omega | decide)) (vx_cwVW 0 hts gX8_run_X6_perform rfl rfl rfl (by decide +kernel) ⟨Nat.le_of_ble_eq_true rfl, Nat.le_of_ble_eq_true rfl⟩) ⟨fun a U g mk q => by obtain ⟨q0, q1, qP, qK, qD, e0, e1, e2, e3, e4, e5⟩ := q; exact ⟨q0, q1, qP, va_K.moved (u := U) (U := U.calling g mk a) (Vm.Alike.refl U.vm) qK, qD, vx_Zq.moved (u := U) (U := U.calling g mk a) (Vm.Alike.refl U.vm) e0, vx_Zq.moved (u := U) (U := U.calling g mk a) (Vm.Alike.refl U.vm) e1, va_Nw.same (U := U.calling g mk a) rfl rfl e2, va_Nw.same (U := U.calling g mk a) rfl rfl e3, va_Nw.same (U := U.calling g mk a) rfl rfl e4, va_Nw.same (U := U.calling g mk a) rfl rfl e5⟩, va_recv hKc hPc (ci := 5) (q0 := 0) rfl rfl, fun U hU hW => ⟨rfl, by rw [hU], by rw [hU]; exact hPc, va_K.moved hW.alike hKc, hDc.weaken (fun _ _ _ _ => trivial), by rw [hU]; exact vx_Zq.moved hW.alike (vx_Zq.narrow (vx_Zq.kept hZU hS.2.1) hFc), by rw [hU]; exact vx_Zq.moved hW.alike (vx_Zq.narrow (vx_Zq.kept hZN hS.2.1) hFc), va_Nw.warmD hW hd1, va_Nw.warmD hW hd2, va_Nw.warmD hW hd3, va_Nw.warmC hW hcU⟩⟩ rfl rfl hl.1 rfl (lv_room (Nat.le_of_ble_eq_true rfl)) dX8_run_48 ⟨Nat.le_of_ble_eq_true rfl, Nat.le_of_ble_eq_true rfl⟩) hS (fun q _ h => hFc q h) hFc (fun u15 t H1 locs ht hvm hw hB hz1 hk1 hS => ?_)
                obtain ⟨hP1, hK1, hD1, hg1⟩ := hB
                rw [ht] at hP1 hg1
                have hK1 := va_K.moved hvm.symm hK1
                try dsimp only at hw
                obtain ⟨hP, hD⟩ := va_join (wr := [(h0, .inr (7, [.ref oB, .ref oP])), (oK, .inr (2, [.int 0, .int 0, .int 0]))]) (w1 := [(oP, .inr (5, [.ref ar, .ref oB, .ref oS, .int 0, .int 0, .int 0, .int 4, .int 0, .int 0])), (oB, .inr (0, [.ref am, .ref oM, .ref oS, .ref oK, .ref oL, .ref oD])), (oS, .inr (6, [.int 224, .int (-1)])), (oM, .inr (3, [.ref ad, .ref ab, .int 0])), (am, .inl (tm, 512, .inl u15.1)), (ar, .inl (tr, 8, .inl u15.2)), (oL, .inr (4, [.int 128, .int 0, .ref ap, .int 0, .int 0, .int 0, .int 0])), (oD, .inr (1, [.int 128, .int 0, .ref aw, .int 0, .int 0, .int 0, .int 0, .int 0, .int 0, .int 0]))]) hP hD [4, 5, 6, 1, 2, 3, 9, 7] [0, 8] rfl rfl (by decide) (by decide) hk1 hFc hP1 hD1
                have hK := (hK.sub (tys' := []) [] rfl).app hK1
                have hgr : sz + 2 ≤ H1.size := by omega
                generalize H1 = H at hP hS hgr ⊢
                have hP : va_P (dC, dI) vwCl [(h0, .inr (7, [.ref oB, .ref oP])), (oK, .inr (2, [.int 0, .int 0, .int 0])), (oP, .inr (5, [.ref ar, .ref oB, .ref oS, .int 0, .int 0, .int 0, .int 4, .int 0, .int 0])), (oB, .inr (0, [.ref am, .ref oM, .ref oS, .ref oK, .ref oL, .ref oD])), (oS, .inr (6, [.int 224, .int (-1)])), (oM, .inr (3, [.ref ad, .ref ab, .int 0])), (am, .inl (tm, 512, .inl u15.1)), (ar, .inl (tr, 8, .inl u15.2)), (oL, .inr (4, [.int 128, .int 0, .ref ap, .int 0, .int 0, .int 0, .int 0])), (oD, .inr (1, [.int 128, .int 0, .ref aw, .int 0, .int 0, .int 0, .int 0, .int 0, .int 0, .int 0]))] H := hP
                have hD : va_D A [(h0, .inr (7, [.ref oB, .ref oP])), (oK, .inr (2, [.int 0, .int 0, .int 0])), (oP, .inr (5, [.ref ar, .ref oB, .ref oS, .int 0, .int 0, .int 0, .int 4, .int 0, .int 0])), (oB, .inr (0, [.ref am, .ref oM, .ref oS, .ref oK, .ref oL, .ref oD])), (oS, .inr (6, [.int 224, .int (-1)])), (oM, .inr (3, [.ref ad, .ref ab, .int 0])), (am, .inl (tm, 512, .inl u15.1)), (ar, .inl (tr, 8, .inl u15.2)), (oL, .inr (4, [.int 128, .int 0, .ref ap, .int 0, .int 0, .int 0, .int 0])), (oD, .inr (1, [.int 128, .int 0, .ref aw, .int 0, .int 0, .int 0, .int 0, .int 0, .int 0, .int 0]))] := hD
                have hK : va_K (dC, dI) vwCl [(tm, .int), (tr, .int)] s := hK
                refine W.widen (k := 2) (n := 12) (Nat.le_of_ble_eq_true rfl) (Nat.le_of_ble_eq_true rfl) ?_
                obtain ⟨_, _, _, _⟩ := hw
                refine lv_aload_n hx hb dX8_run_51 rfl (lv_at hl 1 rfl) ?_
                refine va_get (D := (dC, dI)) (ci := 7) (v := .ref oP) (C := RX8) (T := TX8) (N := 2) hx hb hts (by decide +kernel) hown hK hP 0 rfl rfl 1 (by decide) (hts (.fieldLink RX8 21 "UnibusMachine" "processor" "LUnibusMachine$Processor;") (by decide +kernel)) (fun _ h9 => h9) rfl dX8_run_52 ?_
                refine va_get (D := (dC, dI)) (ci := 5) (v := .int 0) (C := RX6) (T := TX6) (N := 9) hx hb hts (by decide +kernel) hown hK hP 2 rfl rfl 4 (by decide) (hts (.fieldLink RX8 63 "UnibusMachine$Processor" "halted" "I") (by decide +kernel)) (fun _ h9 => h9) rfl dX8_run_55 ?_
                refine lv_if_ne (tgt := 75) hx hb dX8_run_58 (by decide) (fun c16 => ?_) (fun c16 => ?_)
                · exact absurd c16 (by decide)
                · skip
                  refine lv_aload_n hx hb dX8_run_61 rfl (lv_at hl 1 rfl) ?_
                  refine va_get (D := (dC, dI)) (ci := 7) (v := .ref oB) (C := RX8) (T := TX8) (N := 2) hx hb hts (by decide +kernel) hown hK hP 0 rfl rfl 0 (by decide) (hts (.fieldLink RX8 10 "UnibusMachine" "bus" "LUnibusMachine$Bus;") (by decide +kernel)) (fun _ h9 => h9) rfl dX8_run_62 ?_
                  have hPc := hP.sub (ws' := [(oB, .inr (0, [.ref am, .ref oM, .ref oS, .ref oK, .ref oL, .ref oD])), (oL, .inr (4, [.int 128, .int 0, .ref ap, .int 0, .int 0, .int 0, .int 0])), (oD, .inr (1, [.int 128, .int 0, .ref aw, .int 0, .int 0, .int 0, .int 0, .int 0, .int 0, .int 0]))]) [3, 8, 9] rfl
                  have hDc := hD.sub (ws' := [(oB, .inr (0, [.ref am, .ref oM, .ref oS, .ref oK, .ref oL, .ref oD])), (oL, .inr (4, [.int 128, .int 0, .ref ap, .int 0, .int 0, .int 0, .int 0])), (oD, .inr (1, [.int 128, .int 0, .ref aw, .int 0, .int 0, .int 0, .int 0, .int 0, .int 0, .int 0]))]) [3, 8, 9] (by decide) rfl
                  have hKc := hK.sub (tys' := []) [] rfl
                  have hFc := va_free (wc := [(oB, .inr (0, [.ref am, .ref oM, .ref oS, .ref oK, .ref oL, .ref oD])), (oL, .inr (4, [.int 128, .int 0, .ref ap, .int 0, .int 0, .int 0, .int 0])), (oD, .inr (1, [.int 128, .int 0, .ref aw, .int 0, .int 0, .int 0, .int 0, .int 0, .int 0, .int 0]))]) hD hS hA [3, 8, 9] rfl
                  have hSz := hS.1
                  refine va_callv (va_runV (As := []) (rest := []) ⟨hx, hb, hml, hown, hts⟩ (c_goOn l dC dI oB am oM oS oK oL oD ap aw H.size) (cwV 0 hts gX8_run_X0_goOn rfl rfl rfl (by decide +kernel) ⟨Nat.le_of_ble_eq_true rfl, Nat.le_of_ble_eq_true rfl⟩) ⟨fun a U g mk q => by obtain ⟨q0, q1, qP, qK, qD⟩ := q; exact ⟨q0, q1, qP, va_K.moved (u := U) (U := U.calling g mk a) (Vm.Alike.refl U.vm) qK, qD⟩, va_recv hKc hPc (ci := 0) (q0 := 0) rfl rfl, fun U hU hW => ⟨rfl, by rw [hU], by rw [hU]; exact hPc, va_K.moved hW.alike hKc, hDc.weaken (fun _ _ _ _ => trivial)⟩⟩ rfl rfl hl.1 rfl (lv_room (Nat.le_of_ble_eq_true rfl)) dX8_run_65 ⟨Nat.le_of_ble_eq_true rfl, Nat.le_of_ble_eq_true rfl⟩) hS (fun q _ h => hFc q h) hFc (fun u18 t H1 locs ht hvm hw hB hz1 hk1 hS => ?_)
                  obtain ⟨hP1, hK1, hD1⟩ := hB
                  rw [ht] at hP1
                  have hK1 := va_K.moved hvm.symm hK1
                  try dsimp only at hw
                  obtain ⟨hP, hD⟩ := va_join (wr := [(h0, .inr (7, [.ref oB, .ref oP])), (oK, .inr (2, [.int 0, .int 0, .int 0])), (oP, .inr (5, [.ref ar, .ref oB, .ref oS, .int 0, .int 0, .int 0, .int 4, .int 0, .int 0])), (oS, .inr (6, [.int 224, .int (-1)])), (oM, .inr (3, [.ref ad, .ref ab, .int 0])), (am, .inl (tm, 512, .inl u15.1)), (ar, .inl (tr, 8, .inl u15.2))]) (w1 := [(oB, .inr (0, [.ref am, .ref oM, .ref oS, .ref oK, .ref oL, .ref oD])), (oL, .inr (4, [.int 128, .int 0, .ref ap, .int 0, .int 0, .int 0, .int 0])), (oD, .inr (1, [.int 128, .int 0, .ref aw, .int 0, .int 0, .int 0, .int 0, .int 0, .int 0, .int 0]))]) hP hD [3, 8, 9] [0, 1, 2, 4, 5, 6, 7] rfl rfl (by decide) (by decide) hk1 hFc hP1 hD1
                  have hK := (hK.sub (tys' := [(tm, .int), (tr, .int)]) [0, 1] rfl).app hK1
                  have hgr : sz + 2 ≤ H1.size := by omega
                  generalize H1 = H at hP hS hgr ⊢
                  have hP : va_P (dC, dI) vwCl [(h0, .inr (7, [.ref oB, .ref oP])), (oK, .inr (2, [.int 0, .int 0, .int 0])), (oP, .inr (5, [.ref ar, .ref oB, .ref oS, .int 0, .int 0, .int 0, .int 4, .int 0, .int 0])), (oS, .inr (6, [.int 224, .int (-1)])), (oM, .inr (3, [.ref ad, .ref ab, .int 0])), (am, .inl (tm, 512, .inl u15.1)), (ar, .inl (tr, 8, .inl u15.2)), (oB, .inr (0, [.ref am, .ref oM, .ref oS, .ref oK, .ref oL, .ref oD])), (oL, .inr (4, [.int 128, .int 0, .ref ap, .int 0, .int 0, .int 0, .int 0])), (oD, .inr (1, [.int 128, .int 0, .ref aw, .int 0, .int 0, .int 0, .int 0, .int 0, .int 0, .int 0]))] H := hP
                  have hD : va_D A [(h0, .inr (7, [.ref oB, .ref oP])), (oK, .inr (2, [.int 0, .int 0, .int 0])), (oP, .inr (5, [.ref ar, .ref oB, .ref oS, .int 0, .int 0, .int 0, .int 4, .int 0, .int 0])), (oS, .inr (6, [.int 224, .int (-1)])), (oM, .inr (3, [.ref ad, .ref ab, .int 0])), (am, .inl (tm, 512, .inl u15.1)), (ar, .inl (tr, 8, .inl u15.2)), (oB, .inr (0, [.ref am, .ref oM, .ref oS, .ref oK, .ref oL, .ref oD])), (oL, .inr (4, [.int 128, .int 0, .ref ap, .int 0, .int 0, .int 0, .int 0])), (oD, .inr (1, [.int 128, .int 0, .ref aw, .int 0, .int 0, .int 0, .int 0, .int 0, .int 0, .int 0]))] := hD
                  have hK : va_K (dC, dI) vwCl [(tm, .int), (tr, .int)] s := hK
                  refine W.widen (k := 2) (n := 12) (Nat.le_of_ble_eq_true rfl) (Nat.le_of_ble_eq_true rfl) ?_
                  refine lv_aload_n hx hb dX8_run_68 rfl (lv_at hl 1 rfl) ?_
                  refine va_get (D := (dC, dI)) (ci := 7) (v := .ref oP) (C := RX8) (T := TX8) (N := 2) hx hb hts (by decide +kernel) hown hK hP 0 rfl rfl 1 (by decide) (hts (.fieldLink RX8 21 "UnibusMachine" "processor" "LUnibusMachine$Processor;") (by decide +kernel)) (fun _ h9 => h9) rfl dX8_run_69 ?_
                  have hPc := hP.sub (ws' := [(oP, .inr (5, [.ref ar, .ref oB, .ref oS, .int 0, .int 0, .int 0, .int 4, .int 0, .int 0])), (oB, .inr (0, [.ref am, .ref oM, .ref oS, .ref oK, .ref oL, .ref oD])), (oS, .inr (6, [.int 224, .int (-1)])), (oD, .inr (1, [.int 128, .int 0, .ref aw, .int 0, .int 0, .int 0, .int 0, .int 0, .int 0, .int 0])), (oK, .inr (2, [.int 0, .int 0, .int 0])), (oL, .inr (4, [.int 128, .int 0, .ref ap, .int 0, .int 0, .int 0, .int 0]))]) [2, 7, 3, 9, 1, 8] rfl
                  have hDc := hD.sub (ws' := [(oP, .inr (5, [.ref ar, .ref oB, .ref oS, .int 0, .int 0, .int 0, .int 4, .int 0, .int 0])), (oB, .inr (0, [.ref am, .ref oM, .ref oS, .ref oK, .ref oL, .ref oD])), (oS, .inr (6, [.int 224, .int (-1)])), (oD, .inr (1, [.int 128, .int 0, .ref aw, .int 0, .int 0, .int 0, .int 0, .int 0, .int 0, .int 0])), (oK, .inr (2, [.int 0, .int 0, .int 0])), (oL, .inr (4, [.int 128, .int 0, .ref ap, .int 0, .int 0, .int 0, .int 0]))]) [2, 7, 3, 9, 1, 8] (by decide) rfl
                  have hKc := hK.sub (tys' := []) [] rfl
                  have hFc := va_free (wc := [(oP, .inr (5, [.ref ar, .ref oB, .ref oS, .int 0, .int 0, .int 0, .int 4, .int 0, .int 0])), (oB, .inr (0, [.ref am, .ref oM, .ref oS, .ref oK, .ref oL, .ref oD])), (oS, .inr (6, [.int 224, .int (-1)])), (oD, .inr (1, [.int 128, .int 0, .ref aw, .int 0, .int 0, .int 0, .int 0, .int 0, .int 0, .int 0])), (oK, .inr (2, [.int 0, .int 0, .int 0])), (oL, .inr (4, [.int 128, .int 0, .ref ap, .int 0, .int 0, .int 0, .int 0]))]) hD hS hA [2, 7, 3, 9, 1, 8] rfl
                  have hSz := hS.1
                  refine va_callv (va_runV (As := []) (rest := []) ⟨hx, hb, hml, hown, hts⟩ (c_look l dC dI oP ar oB oS 4 am oM oK oL oD ap aw H.size) (cwV 0 hts gX8_run_X6_lookForInterrupt rfl rfl rfl (by decide +kernel) ⟨Nat.le_of_ble_eq_true rfl, Nat.le_of_ble_eq_true rfl⟩) ⟨fun a U g mk q => by obtain ⟨q0, q1, qP, qK, qD⟩ := q; exact ⟨q0, q1, qP, va_K.moved (u := U) (U := U.calling g mk a) (Vm.Alike.refl U.vm) qK, qD⟩, va_recv hKc hPc (ci := 5) (q0 := 0) rfl rfl, fun U hU hW => ⟨rfl, by rw [hU], by rw [hU]; exact hPc, va_K.moved hW.alike hKc, hDc.weaken (fun _ _ _ _ => trivial)⟩⟩ rfl rfl hl.1 rfl (lv_room (Nat.le_of_ble_eq_true rfl)) dX8_run_72 ⟨Nat.le_of_ble_eq_true rfl, Nat.le_of_ble_eq_true rfl⟩) hS (fun q _ h => hFc q h) hFc (fun u20 t H1 locs ht hvm hw hB hz1 hk1 hS => ?_)
                  obtain ⟨hP1, hK1, hD1⟩ := hB
                  rw [ht] at hP1
                  have hK1 := va_K.moved hvm.symm hK1
                  try dsimp only at hw
                  obtain ⟨hP, hD⟩ := va_join (wr := [(h0, .inr (7, [.ref oB, .ref oP])), (oM, .inr (3, [.ref ad, .ref ab, .int 0])), (am, .inl (tm, 512, .inl u15.1)), (ar, .inl (tr, 8, .inl u15.2))]) (w1 := [(oP, .inr (5, [.ref ar, .ref oB, .ref oS, .int 0, .int 0, .int 0, .int 4, .int 0, .int 0])), (oB, .inr (0, [.ref am, .ref oM, .ref oS, .ref oK, .ref oL, .ref oD])), (oS, .inr (6, [.int 224, .int (-1)])), (oD, .inr (1, [.int 128, .int 0, .ref aw, .int 0, .int 0, .int 0, .int 0, .int 0, .int 0, .int 0])), (oK, .inr (2, [.int 0, .int 0, .int 0])), (oL, .inr (4, [.int 128, .int 0, .ref ap, .int 0, .int 0, .int 0, .int 0]))]) hP hD [2, 7, 3, 9, 1, 8] [0, 4, 5, 6] rfl rfl (by decide) (by decide) hk1 hFc hP1 hD1
                  have hK := (hK.sub (tys' := [(tm, .int), (tr, .int)]) [0, 1] rfl).app hK1
                  have hgr : sz + 2 ≤ H1.size := by omega
                  generalize H1 = H at hP hS hgr ⊢
                  have hP : va_P (dC, dI) vwCl [(h0, .inr (7, [.ref oB, .ref oP])), (oM, .inr (3, [.ref ad, .ref ab, .int 0])), (am, .inl (tm, 512, .inl u15.1)), (ar, .inl (tr, 8, .inl u15.2)), (oP, .inr (5, [.ref ar, .ref oB, .ref oS, .int 0, .int 0, .int 0, .int 4, .int 0, .int 0])), (oB, .inr (0, [.ref am, .ref oM, .ref oS, .ref oK, .ref oL, .ref oD])), (oS, .inr (6, [.int 224, .int (-1)])), (oD, .inr (1, [.int 128, .int 0, .ref aw, .int 0, .int 0, .int 0, .int 0, .int 0, .int 0, .int 0])), (oK, .inr (2, [.int 0, .int 0, .int 0])), (oL, .inr (4, [.int 128, .int 0, .ref ap, .int 0, .int 0, .int 0, .int 0]))] H := hP
                  have hD : va_D A [(h0, .inr (7, [.ref oB, .ref oP])), (oM, .inr (3, [.ref ad, .ref ab, .int 0])), (am, .inl (tm, 512, .inl u15.1)), (ar, .inl (tr, 8, .inl u15.2)), (oP, .inr (5, [.ref ar, .ref oB, .ref oS, .int 0, .int 0, .int 0, .int 4, .int 0, .int 0])), (oB, .inr (0, [.ref am, .ref oM, .ref oS, .ref oK, .ref oL, .ref oD])), (oS, .inr (6, [.int 224, .int (-1)])), (oD, .inr (1, [.int 128, .int 0, .ref aw, .int 0, .int 0, .int 0, .int 0, .int 0, .int 0, .int 0])), (oK, .inr (2, [.int 0, .int 0, .int 0])), (oL, .inr (4, [.int 128, .int 0, .ref ap, .int 0, .int 0, .int 0, .int 0]))] := hD
                  have hK : va_K (dC, dI) vwCl [(tm, .int), (tr, .int)] s := hK
                  refine W.widen (k := 2) (n := 12) (Nat.le_of_ble_eq_true rfl) (Nat.le_of_ble_eq_true rfl) ?_
                  refine lv_aload_n hx hb dX8_run_75 rfl (lv_at hl 1 rfl) ?_
                  refine va_get (D := (dC, dI)) (ci := 7) (v := .ref oP) (C := RX8) (T := TX8) (N := 2) hx hb hts (by decide +kernel) hown hK hP 0 rfl rfl 1 (by decide) (hts (.fieldLink RX8 21 "UnibusMachine" "processor" "LUnibusMachine$Processor;") (by decide +kernel)) (fun _ h9 => h9) rfl dX8_run_76 ?_
                  refine va_get (D := (dC, dI)) (ci := 5) (v := .int 0) (C := RX6) (T := TX6) (N := 9) hx hb hts (by decide +kernel) hown hK hP 4 rfl rfl 4 (by decide) (hts (.fieldLink RX8 63 "UnibusMachine$Processor" "halted" "I") (by decide +kernel)) (fun _ h9 => h9) rfl dX8_run_79 ?_
                  refine lv_if_eq (tgt := 87) hx hb dX8_run_82 (by decide) (fun c21 => ?_) (fun c21 => ?_)
                  · skip
                    refine lv_iinc (v := 3) (lv' := [(2, .int 3), (0, .ref h0), (1, .int 4)]) hx hb dX8_run_87 hl (k := 0) rfl (by decide) (by decide) rfl (fun ls hl => ?_)
                    refine lv_goto (tgt := 39) hx hb dX8_run_90 (by decide) ?_
                    refine lv_iload_n hx hb dX8_run_39 rfl (lv_at hl 0 rfl) ?_
                    refine lv_iload_n hx hb dX8_run_40 rfl (lv_at hl 2 rfl) ?_
                    refine lv_icmp_gt (tgt := 93) hx hb dX8_run_41 (by decide) (fun c22 => ?_) (fun c22 => ?_)
                    · exact absurd c22 (by decide)
                    · skip
                      refine lv_aload_n hx hb dX8_run_44 rfl (lv_at hl 1 rfl) ?_
                      refine va_get (D := (dC, dI)) (ci := 7) (v := .ref oP) (C := RX8) (T := TX8) (N := 2) hx hb hts (by decide +kernel) hown hK hP 0 rfl rfl 1 (by decide) (hts (.fieldLink RX8 21 "UnibusMachine" "processor" "LUnibusMachine$Processor;") (by decide +kernel)) (fun _ h9 => h9) rfl dX8_run_45 ?_
                      have hPc := hP.sub (ws' := [(oP, .inr (5, [.ref ar, .ref oB, .ref oS, .int 0, .int 0, .int 0, .int 4, .int 0, .int 0])), (oB, .inr (0, [.ref am, .ref oM, .ref oS, .ref oK, .ref oL, .ref oD])), (oS, .inr (6, [.int 224, .int (-1)])), (oM, .inr (3, [.ref ad, .ref ab, .int 0])), (am, .inl (tm, 512, .inl u15.1)), (ar, .inl (tr, 8, .inl u15.2)), (oL, .inr (4, [.int 128, .int 0, .ref ap, .int 0, .int 0, .int 0, .int 0])), (oD, .inr (1, [.int 128, .int 0, .ref aw, .int 0, .int 0, .int 0, .int 0, .int 0, .int 0, .int 0]))]) [4, 5, 6, 1, 2, 3, 9, 7] rfl
                      have hDc := hD.sub (ws' := [(oP, .inr (5, [.ref ar, .ref oB, .ref oS, .int 0, .int 0, .int 0, .int 4, .int 0, .int 0])), (oB, .inr (0, [.ref am, .ref oM, .ref oS, .ref oK, .ref oL, .ref oD])), (oS, .inr (6, [.int 224, .int (-1)])), (oM, .inr (3, [.ref ad, .ref ab, .int 0])), (am, .inl (tm, 512, .inl u15.1)), (ar, .inl (tr, 8, .inl u15.2)), (oL, .inr (4, [.int 128, .int 0, .ref ap, .int 0, .int 0, .int 0, .int 0])), (oD, .inr (1, [.int 128, .int 0, .ref aw, .int 0, .int 0, .int 0, .int 0, .int 0, .int 0, .int 0]))]) [4, 5, 6, 1, 2, 3, 9, 7] (by decide) rfl
                      have hKc := hK.sub (tys' := [(tm, .int), (tr, .int)]) [0, 1] rfl
                      have hFc := va_free (wc := [(oP, .inr (5, [.ref ar, .ref oB, .ref oS, .int 0, .int 0, .int 0, .int 4, .int 0, .int 0])), (oB, .inr (0, [.ref am, .ref oM, .ref oS, .ref oK, .ref oL, .ref oD])), (oS, .inr (6, [.int 224, .int (-1)])), (oM, .inr (3, [.ref ad, .ref ab, .int 0])), (am, .inl (tm, 512, .inl u15.1)), (ar, .inl (tr, 8, .inl u15.2)), (oL, .inr (4, [.int 128, .int 0, .ref ap, .int 0, .int 0, .int 0, .int 0])), (oD, .inr (1, [.int 128, .int 0, .ref aw, .int 0, .int 0, .int 0, .int 0, .int 0, .int 0, .int 0]))]) hD hS hA [4, 5, 6, 1, 2, 3, 9, 7] rfl
                      have hSz := hS.1
                      refine va_callv (vx_runVW (As := []) (rest := []) ⟨hx, hb, hml, hown, hts⟩ (c_perform l dC dI oP ar oB oS 4 am oM oK oL oD ad ab tm u15.1 tr u15.2 ((z - 4) - 4) ap aw H.size hlt (by first | assumption | omega | decide) (by first | assumption | omega | decide) (by first | assumption | omega | decide) (by first | assumption | omega | decide) (by first | assumption | omega | decide) (by first | assumption | omega | decide) (by first | assumption | omega | decide)) (vx_cwVW 0 hts gX8_run_X6_perform rfl rfl rfl (by decide +kernel) ⟨Nat.le_of_ble_eq_true rfl, Nat.le_of_ble_eq_true rfl⟩) ⟨fun a U g mk q => by obtain ⟨q0, q1, qP, qK, qD, e0, e1, e2, e3, e4, e5⟩ := q; exact ⟨q0, q1, qP, va_K.moved (u := U) (U := U.calling g mk a) (Vm.Alike.refl U.vm) qK, qD, vx_Zq.moved (u := U) (U := U.calling g mk a) (Vm.Alike.refl U.vm) e0, vx_Zq.moved (u := U) (U := U.calling g mk a) (Vm.Alike.refl U.vm) e1, va_Nw.same (U := U.calling g mk a) rfl rfl e2, va_Nw.same (U := U.calling g mk a) rfl rfl e3, va_Nw.same (U := U.calling g mk a) rfl rfl e4, va_Nw.same (U := U.calling g mk a) rfl rfl e5⟩, va_recv hKc hPc (ci := 5) (q0 := 0) rfl rfl, fun U hU hW => ⟨rfl, by rw [hU], by rw [hU]; exact hPc, va_K.moved hW.alike hKc, hDc.weaken (fun _ _ _ _ => trivial), by rw [hU]; exact vx_Zq.moved hW.alike (vx_Zq.narrow (vx_Zq.kept hZU hS.2.1) hFc), by rw [hU]; exact vx_Zq.moved hW.alike (vx_Zq.narrow (vx_Zq.kept hZN hS.2.1) hFc), va_Nw.warmD hW hd1, va_Nw.warmD hW hd2, va_Nw.warmD hW hd3, va_Nw.warmC hW hcU⟩⟩ rfl rfl hl.1 rfl (lv_room (Nat.le_of_ble_eq_true rfl)) dX8_run_48 ⟨Nat.le_of_ble_eq_true rfl, Nat.le_of_ble_eq_true rfl⟩) hS (fun q _ h => hFc q h) hFc (fun u24 t H1 locs ht hvm hw hB hz1 hk1 hS => ?_)
                      obtain ⟨hP1, hK1, hD1, hg1⟩ := hB
                      rw [ht] at hP1 hg1
                      have hK1 := va_K.moved hvm.symm hK1
                      try dsimp only at hw
                      obtain ⟨hP, hD⟩ := va_join (wr := [(h0, .inr (7, [.ref oB, .ref oP])), (oK, .inr (2, [.int 0, .int 0, .int 0]))]) (w1 := [(oP, .inr (5, [.ref ar, .ref oB, .ref oS, .int 0, .int 0, .int 0, .int 4, .int 0, .int 0])), (oB, .inr (0, [.ref am, .ref oM, .ref oS, .ref oK, .ref oL, .ref oD])), (oS, .inr (6, [.int 224, .int (-1)])), (oM, .inr (3, [.ref ad, .ref ab, .int 0])), (am, .inl (tm, 512, .inl u24.1)), (ar, .inl (tr, 8, .inl u24.2)), (oL, .inr (4, [.int 128, .int 0, .ref ap, .int 0, .int 0, .int 0, .int 0])), (oD, .inr (1, [.int 128, .int 0, .ref aw, .int 0, .int 0, .int 0, .int 0, .int 0, .int 0, .int 0]))]) hP hD [4, 5, 6, 1, 2, 3, 9, 7] [0, 8] rfl rfl (by decide) (by decide) hk1 hFc hP1 hD1
                      have hK := (hK.sub (tys' := []) [] rfl).app hK1
                      have hgr : sz + 3 ≤ H1.size := by omega
                      generalize H1 = H at hP hS hgr ⊢
                      have hP : va_P (dC, dI) vwCl [(h0, .inr (7, [.ref oB, .ref oP])), (oK, .inr (2, [.int 0, .int 0, .int 0])), (oP, .inr (5, [.ref ar, .ref oB, .ref oS, .int 0, .int 0, .int 0, .int 4, .int 0, .int 0])), (oB, .inr (0, [.ref am, .ref oM, .ref oS, .ref oK, .ref oL, .ref oD])), (oS, .inr (6, [.int 224, .int (-1)])), (oM, .inr (3, [.ref ad, .ref ab, .int 0])), (am, .inl (tm, 512, .inl u24.1)), (ar, .inl (tr, 8, .inl u24.2)), (oL, .inr (4, [.int 128, .int 0, .ref ap, .int 0, .int 0, .int 0, .int 0])), (oD, .inr (1, [.int 128, .int 0, .ref aw, .int 0, .int 0, .int 0, .int 0, .int 0, .int 0, .int 0]))] H := hP
                      have hD : va_D A [(h0, .inr (7, [.ref oB, .ref oP])), (oK, .inr (2, [.int 0, .int 0, .int 0])), (oP, .inr (5, [.ref ar, .ref oB, .ref oS, .int 0, .int 0, .int 0, .int 4, .int 0, .int 0])), (oB, .inr (0, [.ref am, .ref oM, .ref oS, .ref oK, .ref oL, .ref oD])), (oS, .inr (6, [.int 224, .int (-1)])), (oM, .inr (3, [.ref ad, .ref ab, .int 0])), (am, .inl (tm, 512, .inl u24.1)), (ar, .inl (tr, 8, .inl u24.2)), (oL, .inr (4, [.int 128, .int 0, .ref ap, .int 0, .int 0, .int 0, .int 0])), (oD, .inr (1, [.int 128, .int 0, .ref aw, .int 0, .int 0, .int 0, .int 0, .int 0, .int 0, .int 0]))] := hD
                      have hK : va_K (dC, dI) vwCl [(tm, .int), (tr, .int)] s := hK
                      refine W.widen (k := 3) (n := 18) (Nat.le_of_ble_eq_true rfl) (Nat.le_of_ble_eq_true rfl) ?_
                      obtain ⟨_, _, _, _⟩ := hw
                      refine lv_aload_n hx hb dX8_run_51 rfl (lv_at hl 1 rfl) ?_
                      refine va_get (D := (dC, dI)) (ci := 7) (v := .ref oP) (C := RX8) (T := TX8) (N := 2) hx hb hts (by decide +kernel) hown hK hP 0 rfl rfl 1 (by decide) (hts (.fieldLink RX8 21 "UnibusMachine" "processor" "LUnibusMachine$Processor;") (by decide +kernel)) (fun _ h9 => h9) rfl dX8_run_52 ?_
                      refine va_get (D := (dC, dI)) (ci := 5) (v := .int 0) (C := RX6) (T := TX6) (N := 9) hx hb hts (by decide +kernel) hown hK hP 2 rfl rfl 4 (by decide) (hts (.fieldLink RX8 63 "UnibusMachine$Processor" "halted" "I") (by decide +kernel)) (fun _ h9 => h9) rfl dX8_run_55 ?_
                      refine lv_if_ne (tgt := 75) hx hb dX8_run_58 (by decide) (fun c25 => ?_) (fun c25 => ?_)
                      · exact absurd c25 (by decide)
                      · skip
                        refine lv_aload_n hx hb dX8_run_61 rfl (lv_at hl 1 rfl) ?_
                        refine va_get (D := (dC, dI)) (ci := 7) (v := .ref oB) (C := RX8) (T := TX8) (N := 2) hx hb hts (by decide +kernel) hown hK hP 0 rfl rfl 0 (by decide) (hts (.fieldLink RX8 10 "UnibusMachine" "bus" "LUnibusMachine$Bus;") (by decide +kernel)) (fun _ h9 => h9) rfl dX8_run_62 ?_
                        have hPc := hP.sub (ws' := [(oB, .inr (0, [.ref am, .ref oM, .ref oS, .ref oK, .ref oL, .ref oD])), (oL, .inr (4, [.int 128, .int 0, .ref ap, .int 0, .int 0, .int 0, .int 0])), (oD, .inr (1, [.int 128, .int 0, .ref aw, .int 0, .int 0, .int 0, .int 0, .int 0, .int 0, .int 0]))]) [3, 8, 9] rfl
                        have hDc := hD.sub (ws' := [(oB, .inr (0, [.ref am, .ref oM, .ref oS, .ref oK, .ref oL, .ref oD])), (oL, .inr (4, [.int 128, .int 0, .ref ap, .int 0, .int 0, .int 0, .int 0])), (oD, .inr (1, [.int 128, .int 0, .ref aw, .int 0, .int 0, .int 0, .int 0, .int 0, .int 0, .int 0]))]) [3, 8, 9] (by decide) rfl
                        have hKc := hK.sub (tys' := []) [] rfl
                        have hFc := va_free (wc := [(oB, .inr (0, [.ref am, .ref oM, .ref oS, .ref oK, .ref oL, .ref oD])), (oL, .inr (4, [.int 128, .int 0, .ref ap, .int 0, .int 0, .int 0, .int 0])), (oD, .inr (1, [.int 128, .int 0, .ref aw, .int 0, .int 0, .int 0, .int 0, .int 0, .int 0, .int 0]))]) hD hS hA [3, 8, 9] rfl
                        have hSz := hS.1
                        refine va_callv (va_runV (As := []) (rest := []) ⟨hx, hb, hml, hown, hts⟩ (c_goOn l dC dI oB am oM oS oK oL oD ap aw H.size) (cwV 0 hts gX8_run_X0_goOn rfl rfl rfl (by decide +kernel) ⟨Nat.le_of_ble_eq_true rfl, Nat.le_of_ble_eq_true rfl⟩) ⟨fun a U g mk q => by obtain ⟨q0, q1, qP, qK, qD⟩ := q; exact ⟨q0, q1, qP, va_K.moved (u := U) (U := U.calling g mk a) (Vm.Alike.refl U.vm) qK, qD⟩, va_recv hKc hPc (ci := 0) (q0 := 0) rfl rfl, fun U hU hW => ⟨rfl, by rw [hU], by rw [hU]; exact hPc, va_K.moved hW.alike hKc, hDc.weaken (fun _ _ _ _ => trivial)⟩⟩ rfl rfl hl.1 rfl (lv_room (Nat.le_of_ble_eq_true rfl)) dX8_run_65 ⟨Nat.le_of_ble_eq_true rfl, Nat.le_of_ble_eq_true rfl⟩) hS (fun q _ h => hFc q h) hFc (fun u27 t H1 locs ht hvm hw hB hz1 hk1 hS => ?_)
                        obtain ⟨hP1, hK1, hD1⟩ := hB
                        rw [ht] at hP1
                        have hK1 := va_K.moved hvm.symm hK1
                        try dsimp only at hw
                        obtain ⟨hP, hD⟩ := va_join (wr := [(h0, .inr (7, [.ref oB, .ref oP])), (oK, .inr (2, [.int 0, .int 0, .int 0])), (oP, .inr (5, [.ref ar, .ref oB, .ref oS, .int 0, .int 0, .int 0, .int 4, .int 0, .int 0])), (oS, .inr (6, [.int 224, .int (-1)])), (oM, .inr (3, [.ref ad, .ref ab, .int 0])), (am, .inl (tm, 512, .inl u24.1)), (ar, .inl (tr, 8, .inl u24.2))]) (w1 := [(oB, .inr (0, [.ref am, .ref oM, .ref oS, .ref oK, .ref oL, .ref oD])), (oL, .inr (4, [.int 128, .int 0, .ref ap, .int 0, .int 0, .int 0, .int 0])), (oD, .inr (1, [.int 128, .int 0, .ref aw, .int 0, .int 0, .int 0, .int 0, .int 0, .int 0, .int 0]))]) hP hD [3, 8, 9] [0, 1, 2, 4, 5, 6, 7] rfl rfl (by decide) (by decide) hk1 hFc hP1 hD1
                        have hK := (hK.sub (tys' := [(tm, .int), (tr, .int)]) [0, 1] rfl).app hK1
                        have hgr : sz + 3 ≤ H1.size := by omega
                        generalize H1 = H at hP hS hgr ⊢
                        have hP : va_P (dC, dI) vwCl [(h0, .inr (7, [.ref oB, .ref oP])), (oK, .inr (2, [.int 0, .int 0, .int 0])), (oP, .inr (5, [.ref ar, .ref oB, .ref oS, .int 0, .int 0, .int 0, .int 4, .int 0, .int 0])), (oS, .inr (6, [.int 224, .int (-1)])), (oM, .inr (3, [.ref ad, .ref ab, .int 0])), (am, .inl (tm, 512, .inl u24.1)), (ar, .inl (tr, 8, .inl u24.2)), (oB, .inr (0, [.ref am, .ref oM, .ref oS, .ref oK, .ref oL, .ref oD])), (oL, .inr (4, [.int 128, .int 0, .ref ap, .int 0, .int 0, .int 0, .int 0])), (oD, .inr (1, [.int 128, .int 0, .ref aw, .int 0, .int 0, .int 0, .int 0, .int 0, .int 0, .int 0]))] H := hP
                        have hD : va_D A [(h0, .inr (7, [.ref oB, .ref oP])), (oK, .inr (2, [.int 0, .int 0, .int 0])), (oP, .inr (5, [.ref ar, .ref oB, .ref oS, .int 0, .int 0, .int 0, .int 4, .int 0, .int 0])), (oS, .inr (6, [.int 224, .int (-1)])), (oM, .inr (3, [.ref ad, .ref ab, .int 0])), (am, .inl (tm, 512, .inl u24.1)), (ar, .inl (tr, 8, .inl u24.2)), (oB, .inr (0, [.ref am, .ref oM, .ref oS, .ref oK, .ref oL, .ref oD])), (oL, .inr (4, [.int 128, .int 0, .ref ap, .int 0, .int 0, .int 0, .int 0])), (oD, .inr (1, [.int 128, .int 0, .ref aw, .int 0, .int 0, .int 0, .int 0, .int 0, .int 0, .int 0]))] := hD
                        have hK : va_K (dC, dI) vwCl [(tm, .int), (tr, .int)] s := hK
                        refine W.widen (k := 3) (n := 18) (Nat.le_of_ble_eq_true rfl) (Nat.le_of_ble_eq_true rfl) ?_
                        refine lv_aload_n hx hb dX8_run_68 rfl (lv_at hl 1 rfl) ?_
                        refine va_get (D := (dC, dI)) (ci := 7) (v := .ref oP) (C := RX8) (T := TX8) (N := 2) hx hb hts (by decide +kernel) hown hK hP 0 rfl rfl 1 (by decide) (hts (.fieldLink RX8 21 "UnibusMachine" "processor" "LUnibusMachine$Processor;") (by decide +kernel)) (fun _ h9 => h9) rfl dX8_run_69 ?_
                        have hPc := hP.sub (ws' := [(oP, .inr (5, [.ref ar, .ref oB, .ref oS, .int 0, .int 0, .int 0, .int 4, .int 0, .int 0])), (oB, .inr (0, [.ref am, .ref oM, .ref oS, .ref oK, .ref oL, .ref oD])), (oS, .inr (6, [.int 224, .int (-1)])), (oD, .inr (1, [.int 128, .int 0, .ref aw, .int 0, .int 0, .int 0, .int 0, .int 0, .int 0, .int 0])), (oK, .inr (2, [.int 0, .int 0, .int 0])), (oL, .inr (4, [.int 128, .int 0, .ref ap, .int 0, .int 0, .int 0, .int 0]))]) [2, 7, 3, 9, 1, 8] rfl
                        have hDc := hD.sub (ws' := [(oP, .inr (5, [.ref ar, .ref oB, .ref oS, .int 0, .int 0, .int 0, .int 4, .int 0, .int 0])), (oB, .inr (0, [.ref am, .ref oM, .ref oS, .ref oK, .ref oL, .ref oD])), (oS, .inr (6, [.int 224, .int (-1)])), (oD, .inr (1, [.int 128, .int 0, .ref aw, .int 0, .int 0, .int 0, .int 0, .int 0, .int 0, .int 0])), (oK, .inr (2, [.int 0, .int 0, .int 0])), (oL, .inr (4, [.int 128, .int 0, .ref ap, .int 0, .int 0, .int 0, .int 0]))]) [2, 7, 3, 9, 1, 8] (by decide) rfl
                        have hKc := hK.sub (tys' := []) [] rfl
                        have hFc := va_free (wc := [(oP, .inr (5, [.ref ar, .ref oB, .ref oS, .int 0, .int 0, .int 0, .int 4, .int 0, .int 0])), (oB, .inr (0, [.ref am, .ref oM, .ref oS, .ref oK, .ref oL, .ref oD])), (oS, .inr (6, [.int 224, .int (-1)])), (oD, .inr (1, [.int 128, .int 0, .ref aw, .int 0, .int 0, .int 0, .int 0, .int 0, .int 0, .int 0])), (oK, .inr (2, [.int 0, .int 0, .int 0])), (oL, .inr (4, [.int 128, .int 0, .ref ap, .int 0, .int 0, .int 0, .int 0]))]) hD hS hA [2, 7, 3, 9, 1, 8] rfl
                        have hSz := hS.1
                        refine va_callv (va_runV (As := []) (rest := []) ⟨hx, hb, hml, hown, hts⟩ (c_look l dC dI oP ar oB oS 4 am oM oK oL oD ap aw H.size) (cwV 0 hts gX8_run_X6_lookForInterrupt rfl rfl rfl (by decide +kernel) ⟨Nat.le_of_ble_eq_true rfl, Nat.le_of_ble_eq_true rfl⟩) ⟨fun a U g mk q => by obtain ⟨q0, q1, qP, qK, qD⟩ := q; exact ⟨q0, q1, qP, va_K.moved (u := U) (U := U.calling g mk a) (Vm.Alike.refl U.vm) qK, qD⟩, va_recv hKc hPc (ci := 5) (q0 := 0) rfl rfl, fun U hU hW => ⟨rfl, by rw [hU], by rw [hU]; exact hPc, va_K.moved hW.alike hKc, hDc.weaken (fun _ _ _ _ => trivial)⟩⟩ rfl rfl hl.1 rfl (lv_room (Nat.le_of_ble_eq_true rfl)) dX8_run_72 ⟨Nat.le_of_ble_eq_true rfl, Nat.le_of_ble_eq_true rfl⟩) hS (fun q _ h => hFc q h) hFc (fun u29 t H1 locs ht hvm hw hB hz1 hk1 hS => ?_)
                        obtain ⟨hP1, hK1, hD1⟩ := hB
                        rw [ht] at hP1
                        have hK1 := va_K.moved hvm.symm hK1
                        try dsimp only at hw
                        obtain ⟨hP, hD⟩ := va_join (wr := [(h0, .inr (7, [.ref oB, .ref oP])), (oM, .inr (3, [.ref ad, .ref ab, .int 0])), (am, .inl (tm, 512, .inl u24.1)), (ar, .inl (tr, 8, .inl u24.2))]) (w1 := [(oP, .inr (5, [.ref ar, .ref oB, .ref oS, .int 0, .int 0, .int 0, .int 4, .int 0, .int 0])), (oB, .inr (0, [.ref am, .ref oM, .ref oS, .ref oK, .ref oL, .ref oD])), (oS, .inr (6, [.int 224, .int (-1)])), (oD, .inr (1, [.int 128, .int 0, .ref aw, .int 0, .int 0, .int 0, .int 0, .int 0, .int 0, .int 0])), (oK, .inr (2, [.int 0, .int 0, .int 0])), (oL, .inr (4, [.int 128, .int 0, .ref ap, .int 0, .int 0, .int 0, .int 0]))]) hP hD [2, 7, 3, 9, 1, 8] [0, 4, 5, 6] rfl rfl (by decide) (by decide) hk1 hFc hP1 hD1
                        have hK := (hK.sub (tys' := [(tm, .int), (tr, .int)]) [0, 1] rfl).app hK1
                        have hgr : sz + 3 ≤ H1.size := by omega
                        generalize H1 = H at hP hS hgr ⊢
                        have hP : va_P (dC, dI) vwCl [(h0, .inr (7, [.ref oB, .ref oP])), (oM, .inr (3, [.ref ad, .ref ab, .int 0])), (am, .inl (tm, 512, .inl u24.1)), (ar, .inl (tr, 8, .inl u24.2)), (oP, .inr (5, [.ref ar, .ref oB, .ref oS, .int 0, .int 0, .int 0, .int 4, .int 0, .int 0])), (oB, .inr (0, [.ref am, .ref oM, .ref oS, .ref oK, .ref oL, .ref oD])), (oS, .inr (6, [.int 224, .int (-1)])), (oD, .inr (1, [.int 128, .int 0, .ref aw, .int 0, .int 0, .int 0, .int 0, .int 0, .int 0, .int 0])), (oK, .inr (2, [.int 0, .int 0, .int 0])), (oL, .inr (4, [.int 128, .int 0, .ref ap, .int 0, .int 0, .int 0, .int 0]))] H := hP
                        have hD : va_D A [(h0, .inr (7, [.ref oB, .ref oP])), (oM, .inr (3, [.ref ad, .ref ab, .int 0])), (am, .inl (tm, 512, .inl u24.1)), (ar, .inl (tr, 8, .inl u24.2)), (oP, .inr (5, [.ref ar, .ref oB, .ref oS, .int 0, .int 0, .int 0, .int 4, .int 0, .int 0])), (oB, .inr (0, [.ref am, .ref oM, .ref oS, .ref oK, .ref oL, .ref oD])), (oS, .inr (6, [.int 224, .int (-1)])), (oD, .inr (1, [.int 128, .int 0, .ref aw, .int 0, .int 0, .int 0, .int 0, .int 0, .int 0, .int 0])), (oK, .inr (2, [.int 0, .int 0, .int 0])), (oL, .inr (4, [.int 128, .int 0, .ref ap, .int 0, .int 0, .int 0, .int 0]))] := hD
                        have hK : va_K (dC, dI) vwCl [(tm, .int), (tr, .int)] s := hK
                        refine W.widen (k := 3) (n := 18) (Nat.le_of_ble_eq_true rfl) (Nat.le_of_ble_eq_true rfl) ?_
                        refine lv_aload_n hx hb dX8_run_75 rfl (lv_at hl 1 rfl) ?_
                        refine va_get (D := (dC, dI)) (ci := 7) (v := .ref oP) (C := RX8) (T := TX8) (N := 2) hx hb hts (by decide +kernel) hown hK hP 0 rfl rfl 1 (by decide) (hts (.fieldLink RX8 21 "UnibusMachine" "processor" "LUnibusMachine$Processor;") (by decide +kernel)) (fun _ h9 => h9) rfl dX8_run_76 ?_
                        refine va_get (D := (dC, dI)) (ci := 5) (v := .int 0) (C := RX6) (T := TX6) (N := 9) hx hb hts (by decide +kernel) hown hK hP 4 rfl rfl 4 (by decide) (hts (.fieldLink RX8 63 "UnibusMachine$Processor" "halted" "I") (by decide +kernel)) (fun _ h9 => h9) rfl dX8_run_79 ?_
                        refine lv_if_eq (tgt := 87) hx hb dX8_run_82 (by decide) (fun c30 => ?_) (fun c30 => ?_)
                        · skip
                          refine lv_iinc (v := 4) (lv' := [(2, .int 4), (0, .ref h0), (1, .int 4)]) hx hb dX8_run_87 hl (k := 0) rfl (by decide) (by decide) rfl (fun ls hl => ?_)
                          refine lv_goto (tgt := 39) hx hb dX8_run_90 (by decide) ?_
                          refine lv_iload_n hx hb dX8_run_39 rfl (lv_at hl 0 rfl) ?_
                          refine lv_iload_n hx hb dX8_run_40 rfl (lv_at hl 2 rfl) ?_
                          refine lv_icmp_gt (tgt := 93) hx hb dX8_run_41 (by decide) (fun c31 => ?_) (fun c31 => ?_)
                          · exact absurd c31 (by decide)
                          · skip
                            refine lv_aload_n hx hb dX8_run_44 rfl (lv_at hl 1 rfl) ?_
                            refine va_get (D := (dC, dI)) (ci := 7) (v := .ref oP) (C := RX8) (T := TX8) (N := 2) hx hb hts (by decide +kernel) hown hK hP 0 rfl rfl 1 (by decide) (hts (.fieldLink RX8 21 "UnibusMachine" "processor" "LUnibusMachine$Processor;") (by decide +kernel)) (fun _ h9 => h9) rfl dX8_run_45 ?_
                            have hPc := hP.sub (ws' := [(oP, .inr (5, [.ref ar, .ref oB, .ref oS, .int 0, .int 0, .int 0, .int 4, .int 0, .int 0])), (oB, .inr (0, [.ref am, .ref oM, .ref oS, .ref oK, .ref oL, .ref oD])), (oS, .inr (6, [.int 224, .int (-1)])), (oM, .inr (3, [.ref ad, .ref ab, .int 0])), (am, .inl (tm, 512, .inl u24.1)), (ar, .inl (tr, 8, .inl u24.2)), (oL, .inr (4, [.int 128, .int 0, .ref ap, .int 0, .int 0, .int 0, .int 0])), (oD, .inr (1, [.int 128, .int 0, .ref aw, .int 0, .int 0, .int 0, .int 0, .int 0, .int 0, .int 0]))]) [4, 5, 6, 1, 2, 3, 9, 7] rfl
                            have hDc := hD.sub (ws' := [(oP, .inr (5, [.ref ar, .ref oB, .ref oS, .int 0, .int 0, .int 0, .int 4, .int 0, .int 0])), (oB, .inr (0, [.ref am, .ref oM, .ref oS, .ref oK, .ref oL, .ref oD])), (oS, .inr (6, [.int 224, .int (-1)])), (oM, .inr (3, [.ref ad, .ref ab, .int 0])), (am, .inl (tm, 512, .inl u24.1)), (ar, .inl (tr, 8, .inl u24.2)), (oL, .inr (4, [.int 128, .int 0, .ref ap, .int 0, .int 0, .int 0, .int 0])), (oD, .inr (1, [.int 128, .int 0, .ref aw, .int 0, .int 0, .int 0, .int 0, .int 0, .int 0, .int 0]))]) [4, 5, 6, 1, 2, 3, 9, 7] (by decide) rfl
                            have hKc := hK.sub (tys' := [(tm, .int), (tr, .int)]) [0, 1] rfl
                            have hFc := va_free (wc := [(oP, .inr (5, [.ref ar, .ref oB, .ref oS, .int 0, .int 0, .int 0, .int 4, .int 0, .int 0])), (oB, .inr (0, [.ref am, .ref oM, .ref oS, .ref oK, .ref oL, .ref oD])), (oS, .inr (6, [.int 224, .int (-1)])), (oM, .inr (3, [.ref ad, .ref ab, .int 0])), (am, .inl (tm, 512, .inl u24.1)), (ar, .inl (tr, 8, .inl u24.2)), (oL, .inr (4, [.int 128, .int 0, .ref ap, .int 0, .int 0, .int 0, .int 0])), (oD, .inr (1, [.int 128, .int 0, .ref aw, .int 0, .int 0, .int 0, .int 0, .int 0, .int 0, .int 0]))]) hD hS hA [4, 5, 6, 1, 2, 3, 9, 7] rfl
                            have hSz := hS.1
                            refine va_callv (vx_runVW (As := []) (rest := []) ⟨hx, hb, hml, hown, hts⟩ (c_perform l dC dI oP ar oB oS 4 am oM oK oL oD ad ab tm u24.1 tr u24.2 (((z - 4) - 4) - 4) ap aw H.size hlt (by first | assumption | omega | decide) (by first | assumption | omega | decide) (by first | assumption | omega | decide) (by first | assumption | omega | decide) (by first | assumption | omega | decide) (by first | assumption | omega | decide) (by first | assumption | omega | decide)) (vx_cwVW 0 hts gX8_run_X6_perform rfl rfl rfl (by decide +kernel) ⟨Nat.le_of_ble_eq_true rfl, Nat.le_of_ble_eq_true rfl⟩) ⟨fun a U g mk q => by obtain ⟨q0, q1, qP, qK, qD, e0, e1, e2, e3, e4, e5⟩ := q; exact ⟨q0, q1, qP, va_K.moved (u := U) (U := U.calling g mk a) (Vm.Alike.refl U.vm) qK, qD, vx_Zq.moved (u := U) (U := U.calling g mk a) (Vm.Alike.refl U.vm) e0, vx_Zq.moved (u := U) (U := U.calling g mk a) (Vm.Alike.refl U.vm) e1, va_Nw.same (U := U.calling g mk a) rfl rfl e2, va_Nw.same (U := U.calling g mk a) rfl rfl e3, va_Nw.same (U := U.calling g mk a) rfl rfl e4, va_Nw.same (U := U.calling g mk a) rfl rfl e5⟩, va_recv hKc hPc (ci := 5) (q0 := 0) rfl rfl, fun U hU hW => ⟨rfl, by rw [hU], by rw [hU]; exact hPc, va_K.moved hW.alike hKc, hDc.weaken (fun _ _ _ _ => trivial), by rw [hU]; exact vx_Zq.moved hW.alike (vx_Zq.narrow (vx_Zq.kept hZU hS.2.1) hFc), by rw [hU]; exact vx_Zq.moved hW.alike (vx_Zq.narrow (vx_Zq.kept hZN hS.2.1) hFc), va_Nw.warmD hW hd1, va_Nw.warmD hW hd2, va_Nw.warmD hW hd3, va_Nw.warmC hW hcU⟩⟩ rfl rfl hl.1 rfl (lv_room (Nat.le_of_ble_eq_true rfl)) dX8_run_48 ⟨Nat.le_of_ble_eq_true rfl, Nat.le_of_ble_eq_true rfl⟩) hS (fun q _ h => hFc q h) hFc (fun u33 t H1 locs ht hvm hw hB hz1 hk1 hS => ?_)
                            obtain ⟨hP1, hK1, hD1, hg1⟩ := hB
                            rw [ht] at hP1 hg1
                            have hK1 := va_K.moved hvm.symm hK1
                            try dsimp only at hw
                            obtain ⟨hP, hD⟩ := va_join (wr := [(h0, .inr (7, [.ref oB, .ref oP])), (oK, .inr (2, [.int 0, .int 0, .int 0]))]) (w1 := [(oP, .inr (5, [.ref ar, .ref oB, .ref oS, .int 0, .int 0, .int 0, .int 4, .int 0, .int 0])), (oB, .inr (0, [.ref am, .ref oM, .ref oS, .ref oK, .ref oL, .ref oD])), (oS, .inr (6, [.int 224, .int (-1)])), (oM, .inr (3, [.ref ad, .ref ab, .int 0])), (am, .inl (tm, 512, .inl u33.1)), (ar, .inl (tr, 8, .inl u33.2)), (oL, .inr (4, [.int 128, .int 0, .ref ap, .int 0, .int 0, .int 0, .int 0])), (oD, .inr (1, [.int 128, .int 0, .ref aw, .int 0, .int 0, .int 0, .int 0, .int 0, .int 0, .int 0]))]) hP hD [4, 5, 6, 1, 2, 3, 9, 7] [0, 8] rfl rfl (by decide) (by decide) hk1 hFc hP1 hD1
                            have hK := (hK.sub (tys' := []) [] rfl).app hK1
                            have hgr : sz + 4 ≤ H1.size := by omega
                            generalize H1 = H at hP hS hgr ⊢
                            have hP : va_P (dC, dI) vwCl [(h0, .inr (7, [.ref oB, .ref oP])), (oK, .inr (2, [.int 0, .int 0, .int 0])), (oP, .inr (5, [.ref ar, .ref oB, .ref oS, .int 0, .int 0, .int 0, .int 4, .int 0, .int 0])), (oB, .inr (0, [.ref am, .ref oM, .ref oS, .ref oK, .ref oL, .ref oD])), (oS, .inr (6, [.int 224, .int (-1)])), (oM, .inr (3, [.ref ad, .ref ab, .int 0])), (am, .inl (tm, 512, .inl u33.1)), (ar, .inl (tr, 8, .inl u33.2)), (oL, .inr (4, [.int 128, .int 0, .ref ap, .int 0, .int 0, .int 0, .int 0])), (oD, .inr (1, [.int 128, .int 0, .ref aw, .int 0, .int 0, .int 0, .int 0, .int 0, .int 0, .int 0]))] H := hP
                            have hD : va_D A [(h0, .inr (7, [.ref oB, .ref oP])), (oK, .inr (2, [.int 0, .int 0, .int 0])), (oP, .inr (5, [.ref ar, .ref oB, .ref oS, .int 0, .int 0, .int 0, .int 4, .int 0, .int 0])), (oB, .inr (0, [.ref am, .ref oM, .ref oS, .ref oK, .ref oL, .ref oD])), (oS, .inr (6, [.int 224, .int (-1)])), (oM, .inr (3, [.ref ad, .ref ab, .int 0])), (am, .inl (tm, 512, .inl u33.1)), (ar, .inl (tr, 8, .inl u33.2)), (oL, .inr (4, [.int 128, .int 0, .ref ap, .int 0, .int 0, .int 0, .int 0])), (oD, .inr (1, [.int 128, .int 0, .ref aw, .int 0, .int 0, .int 0, .int 0, .int 0, .int 0, .int 0]))] := hD
                            have hK : va_K (dC, dI) vwCl [(tm, .int), (tr, .int)] s := hK
                            refine W.widen (k := 4) (n := 24) (Nat.le_of_ble_eq_true rfl) (Nat.le_of_ble_eq_true rfl) ?_
                            obtain ⟨_, _, _, _⟩ := hw
                            refine lv_aload_n hx hb dX8_run_51 rfl (lv_at hl 1 rfl) ?_
                            refine va_get (D := (dC, dI)) (ci := 7) (v := .ref oP) (C := RX8) (T := TX8) (N := 2) hx hb hts (by decide +kernel) hown hK hP 0 rfl rfl 1 (by decide) (hts (.fieldLink RX8 21 "UnibusMachine" "processor" "LUnibusMachine$Processor;") (by decide +kernel)) (fun _ h9 => h9) rfl dX8_run_52 ?_
                            refine va_get (D := (dC, dI)) (ci := 5) (v := .int 0) (C := RX6) (T := TX6) (N := 9) hx hb hts (by decide +kernel) hown hK hP 2 rfl rfl 4 (by decide) (hts (.fieldLink RX8 63 "UnibusMachine$Processor" "halted" "I") (by decide +kernel)) (fun _ h9 => h9) rfl dX8_run_55 ?_
                            refine lv_if_ne (tgt := 75) hx hb dX8_run_58 (by decide) (fun c34 => ?_) (fun c34 => ?_)
                            · exact absurd c34 (by decide)
                            · skip
                              refine lv_aload_n hx hb dX8_run_61 rfl (lv_at hl 1 rfl) ?_
                              refine va_get (D := (dC, dI)) (ci := 7) (v := .ref oB) (C := RX8) (T := TX8) (N := 2) hx hb hts (by decide +kernel) hown hK hP 0 rfl rfl 0 (by decide) (hts (.fieldLink RX8 10 "UnibusMachine" "bus" "LUnibusMachine$Bus;") (by decide +kernel)) (fun _ h9 => h9) rfl dX8_run_62 ?_
                              have hPc := hP.sub (ws' := [(oB, .inr (0, [.ref am, .ref oM, .ref oS, .ref oK, .ref oL, .ref oD])), (oL, .inr (4, [.int 128, .int 0, .ref ap, .int 0, .int 0, .int 0, .int 0])), (oD, .inr (1, [.int 128, .int 0, .ref aw, .int 0, .int 0, .int 0, .int 0, .int 0, .int 0, .int 0]))]) [3, 8, 9] rfl
                              have hDc := hD.sub (ws' := [(oB, .inr (0, [.ref am, .ref oM, .ref oS, .ref oK, .ref oL, .ref oD])), (oL, .inr (4, [.int 128, .int 0, .ref ap, .int 0, .int 0, .int 0, .int 0])), (oD, .inr (1, [.int 128, .int 0, .ref aw, .int 0, .int 0, .int 0, .int 0, .int 0, .int 0, .int 0]))]) [3, 8, 9] (by decide) rfl
                              have hKc := hK.sub (tys' := []) [] rfl
                              have hFc := va_free (wc := [(oB, .inr (0, [.ref am, .ref oM, .ref oS, .ref oK, .ref oL, .ref oD])), (oL, .inr (4, [.int 128, .int 0, .ref ap, .int 0, .int 0, .int 0, .int 0])), (oD, .inr (1, [.int 128, .int 0, .ref aw, .int 0, .int 0, .int 0, .int 0, .int 0, .int 0, .int 0]))]) hD hS hA [3, 8, 9] rfl
                              have hSz := hS.1
                              refine va_callv (va_runV (As := []) (rest := []) ⟨hx, hb, hml, hown, hts⟩ (c_goOn l dC dI oB am oM oS oK oL oD ap aw H.size) (cwV 0 hts gX8_run_X0_goOn rfl rfl rfl (by decide +kernel) ⟨Nat.le_of_ble_eq_true rfl, Nat.le_of_ble_eq_true rfl⟩) ⟨fun a U g mk q => by obtain ⟨q0, q1, qP, qK, qD⟩ := q; exact ⟨q0, q1, qP, va_K.moved (u := U) (U := U.calling g mk a) (Vm.Alike.refl U.vm) qK, qD⟩, va_recv hKc hPc (ci := 0) (q0 := 0) rfl rfl, fun U hU hW => ⟨rfl, by rw [hU], by rw [hU]; exact hPc, va_K.moved hW.alike hKc, hDc.weaken (fun _ _ _ _ => trivial)⟩⟩ rfl rfl hl.1 rfl (lv_room (Nat.le_of_ble_eq_true rfl)) dX8_run_65 ⟨Nat.le_of_ble_eq_true rfl, Nat.le_of_ble_eq_true rfl⟩) hS (fun q _ h => hFc q h) hFc (fun u36 t H1 locs ht hvm hw hB hz1 hk1 hS => ?_)
                              obtain ⟨hP1, hK1, hD1⟩ := hB
                              rw [ht] at hP1
                              have hK1 := va_K.moved hvm.symm hK1
                              try dsimp only at hw
                              obtain ⟨hP, hD⟩ := va_join (wr := [(h0, .inr (7, [.ref oB, .ref oP])), (oK, .inr (2, [.int 0, .int 0, .int 0])), (oP, .inr (5, [.ref ar, .ref oB, .ref oS, .int 0, .int 0, .int 0, .int 4, .int 0, .int 0])), (oS, .inr (6, [.int 224, .int (-1)])), (oM, .inr (3, [.ref ad, .ref ab, .int 0])), (am, .inl (tm, 512, .inl u33.1)), (ar, .inl (tr, 8, .inl u33.2))]) (w1 := [(oB, .inr (0, [.ref am, .ref oM, .ref oS, .ref oK, .ref oL, .ref oD])), (oL, .inr (4, [.int 128, .int 0, .ref ap, .int 0, .int 0, .int 0, .int 0])), (oD, .inr (1, [.int 128, .int 0, .ref aw, .int 0, .int 0, .int 0, .int 0, .int 0, .int 0, .int 0]))]) hP hD [3, 8, 9] [0, 1, 2, 4, 5, 6, 7] rfl rfl (by decide) (by decide) hk1 hFc hP1 hD1
                              have hK := (hK.sub (tys' := [(tm, .int), (tr, .int)]) [0, 1] rfl).app hK1
                              have hgr : sz + 4 ≤ H1.size := by omega
                              generalize H1 = H at hP hS hgr ⊢
                              have hP : va_P (dC, dI) vwCl [(h0, .inr (7, [.ref oB, .ref oP])), (oK, .inr (2, [.int 0, .int 0, .int 0])), (oP, .inr (5, [.ref ar, .ref oB, .ref oS, .int 0, .int 0, .int 0, .int 4, .int 0, .int 0])), (oS, .inr (6, [.int 224, .int (-1)])), (oM, .inr (3, [.ref ad, .ref ab, .int 0])), (am, .inl (tm, 512, .inl u33.1)), (ar, .inl (tr, 8, .inl u33.2)), (oB, .inr (0, [.ref am, .ref oM, .ref oS, .ref oK, .ref oL, .ref oD])), (oL, .inr (4, [.int 128, .int 0, .ref ap, .int 0, .int 0, .int 0, .int 0])), (oD, .inr (1, [.int 128, .int 0, .ref aw, .int 0, .int 0, .int 0, .int 0, .int 0, .int 0, .int 0]))] H := hP
                              have hD : va_D A [(h0, .inr (7, [.ref oB, .ref oP])), (oK, .inr (2, [.int 0, .int 0, .int 0])), (oP, .inr (5, [.ref ar, .ref oB, .ref oS, .int 0, .int 0, .int 0, .int 4, .int 0, .int 0])), (oS, .inr (6, [.int 224, .int (-1)])), (oM, .inr (3, [.ref ad, .ref ab, .int 0])), (am, .inl (tm, 512, .inl u33.1)), (ar, .inl (tr, 8, .inl u33.2)), (oB, .inr (0, [.ref am, .ref oM, .ref oS, .ref oK, .ref oL, .ref oD])), (oL, .inr (4, [.int 128, .int 0, .ref ap, .int 0, .int 0, .int 0, .int 0])), (oD, .inr (1, [.int 128, .int 0, .ref aw, .int 0, .int 0, .int 0, .int 0, .int 0, .int 0, .int 0]))] := hD
                              have hK : va_K (dC, dI) vwCl [(tm, .int), (tr, .int)] s := hK
                              refine W.widen (k := 4) (n := 24) (Nat.le_of_ble_eq_true rfl) (Nat.le_of_ble_eq_true rfl) ?_
                              refine lv_aload_n hx hb dX8_run_68 rfl (lv_at hl 1 rfl) ?_
                              refine va_get (D := (dC, dI)) (ci := 7) (v := .ref oP) (C := RX8) (T := TX8) (N := 2) hx hb hts (by decide +kernel) hown hK hP 0 rfl rfl 1 (by decide) (hts (.fieldLink RX8 21 "UnibusMachine" "processor" "LUnibusMachine$Processor;") (by decide +kernel)) (fun _ h9 => h9) rfl dX8_run_69 ?_
                              have hPc := hP.sub (ws' := [(oP, .inr (5, [.ref ar, .ref oB, .ref oS, .int 0, .int 0, .int 0, .int 4, .int 0, .int 0])), (oB, .inr (0, [.ref am, .ref oM, .ref oS, .ref oK, .ref oL, .ref oD])), (oS, .inr (6, [.int 224, .int (-1)])), (oD, .inr (1, [.int 128, .int 0, .ref aw, .int 0, .int 0, .int 0, .int 0, .int 0, .int 0, .int 0])), (oK, .inr (2, [.int 0, .int 0, .int 0])), (oL, .inr (4, [.int 128, .int 0, .ref ap, .int 0, .int 0, .int 0, .int 0]))]) [2, 7, 3, 9, 1, 8] rfl
                              have hDc := hD.sub (ws' := [(oP, .inr (5, [.ref ar, .ref oB, .ref oS, .int 0, .int 0, .int 0, .int 4, .int 0, .int 0])), (oB, .inr (0, [.ref am, .ref oM, .ref oS, .ref oK, .ref oL, .ref oD])), (oS, .inr (6, [.int 224, .int (-1)])), (oD, .inr (1, [.int 128, .int 0, .ref aw, .int 0, .int 0, .int 0, .int 0, .int 0, .int 0, .int 0])), (oK, .inr (2, [.int 0, .int 0, .int 0])), (oL, .inr (4, [.int 128, .int 0, .ref ap, .int 0, .int 0, .int 0, .int 0]))]) [2, 7, 3, 9, 1, 8] (by decide) rfl
                              have hKc := hK.sub (tys' := []) [] rfl
                              have hFc := va_free (wc := [(oP, .inr (5, [.ref ar, .ref oB, .ref oS, .int 0, .int 0, .int 0, .int 4, .int 0, .int 0])), (oB, .inr (0, [.ref am, .ref oM, .ref oS, .ref oK, .ref oL, .ref oD])), (oS, .inr (6, [.int 224, .int (-1)])), (oD, .inr (1, [.int 128, .int 0, .ref aw, .int 0, .int 0, .int 0, .int 0, .int 0, .int 0, .int 0])), (oK, .inr (2, [.int 0, .int 0, .int 0])), (oL, .inr (4, [.int 128, .int 0, .ref ap, .int 0, .int 0, .int 0, .int 0]))]) hD hS hA [2, 7, 3, 9, 1, 8] rfl
                              have hSz := hS.1
                              refine va_callv (va_runV (As := []) (rest := []) ⟨hx, hb, hml, hown, hts⟩ (c_look l dC dI oP ar oB oS 4 am oM oK oL oD ap aw H.size) (cwV 0 hts gX8_run_X6_lookForInterrupt rfl rfl rfl (by decide +kernel) ⟨Nat.le_of_ble_eq_true rfl, Nat.le_of_ble_eq_true rfl⟩) ⟨fun a U g mk q => by obtain ⟨q0, q1, qP, qK, qD⟩ := q; exact ⟨q0, q1, qP, va_K.moved (u := U) (U := U.calling g mk a) (Vm.Alike.refl U.vm) qK, qD⟩, va_recv hKc hPc (ci := 5) (q0 := 0) rfl rfl, fun U hU hW => ⟨rfl, by rw [hU], by rw [hU]; exact hPc, va_K.moved hW.alike hKc, hDc.weaken (fun _ _ _ _ => trivial)⟩⟩ rfl rfl hl.1 rfl (lv_room (Nat.le_of_ble_eq_true rfl)) dX8_run_72 ⟨Nat.le_of_ble_eq_true rfl, Nat.le_of_ble_eq_true rfl⟩) hS (fun q _ h => hFc q h) hFc (fun u38 t H1 locs ht hvm hw hB hz1 hk1 hS => ?_)
                              obtain ⟨hP1, hK1, hD1⟩ := hB
                              rw [ht] at hP1
                              have hK1 := va_K.moved hvm.symm hK1
                              try dsimp only at hw
                              obtain ⟨hP, hD⟩ := va_join (wr := [(h0, .inr (7, [.ref oB, .ref oP])), (oM, .inr (3, [.ref ad, .ref ab, .int 0])), (am, .inl (tm, 512, .inl u33.1)), (ar, .inl (tr, 8, .inl u33.2))]) (w1 := [(oP, .inr (5, [.ref ar, .ref oB, .ref oS, .int 0, .int 0, .int 0, .int 4, .int 0, .int 0])), (oB, .inr (0, [.ref am, .ref oM, .ref oS, .ref oK, .ref oL, .ref oD])), (oS, .inr (6, [.int 224, .int (-1)])), (oD, .inr (1, [.int 128, .int 0, .ref aw, .int 0, .int 0, .int 0, .int 0, .int 0, .int 0, .int 0])), (oK, .inr (2, [.int 0, .int 0, .int 0])), (oL, .inr (4, [.int 128, .int 0, .ref ap, .int 0, .int 0, .int 0, .int 0]))]) hP hD [2, 7, 3, 9, 1, 8] [0, 4, 5, 6] rfl rfl (by decide) (by decide) hk1 hFc hP1 hD1
                              have hK := (hK.sub (tys' := [(tm, .int), (tr, .int)]) [0, 1] rfl).app hK1
                              have hgr : sz + 4 ≤ H1.size := by omega
                              generalize H1 = H at hP hS hgr ⊢
                              have hP : va_P (dC, dI) vwCl [(h0, .inr (7, [.ref oB, .ref oP])), (oM, .inr (3, [.ref ad, .ref ab, .int 0])), (am, .inl (tm, 512, .inl u33.1)), (ar, .inl (tr, 8, .inl u33.2)), (oP, .inr (5, [.ref ar, .ref oB, .ref oS, .int 0, .int 0, .int 0, .int 4, .int 0, .int 0])), (oB, .inr (0, [.ref am, .ref oM, .ref oS, .ref oK, .ref oL, .ref oD])), (oS, .inr (6, [.int 224, .int (-1)])), (oD, .inr (1, [.int 128, .int 0, .ref aw, .int 0, .int 0, .int 0, .int 0, .int 0, .int 0, .int 0])), (oK, .inr (2, [.int 0, .int 0, .int 0])), (oL, .inr (4, [.int 128, .int 0, .ref ap, .int 0, .int 0, .int 0, .int 0]))] H := hP
                              have hD : va_D A [(h0, .inr (7, [.ref oB, .ref oP])), (oM, .inr (3, [.ref ad, .ref ab, .int 0])), (am, .inl (tm, 512, .inl u33.1)), (ar, .inl (tr, 8, .inl u33.2)), (oP, .inr (5, [.ref ar, .ref oB, .ref oS, .int 0, .int 0, .int 0, .int 4, .int 0, .int 0])), (oB, .inr (0, [.ref am, .ref oM, .ref oS, .ref oK, .ref oL, .ref oD])), (oS, .inr (6, [.int 224, .int (-1)])), (oD, .inr (1, [.int 128, .int 0, .ref aw, .int 0, .int 0, .int 0, .int 0, .int 0, .int 0, .int 0])), (oK, .inr (2, [.int 0, .int 0, .int 0])), (oL, .inr (4, [.int 128, .int 0, .ref ap, .int 0, .int 0, .int 0, .int 0]))] := hD
                              have hK : va_K (dC, dI) vwCl [(tm, .int), (tr, .int)] s := hK
                              refine W.widen (k := 4) (n := 24) (Nat.le_of_ble_eq_true rfl) (Nat.le_of_ble_eq_true rfl) ?_
                              refine lv_aload_n hx hb dX8_run_75 rfl (lv_at hl 1 rfl) ?_
                              refine va_get (D := (dC, dI)) (ci := 7) (v := .ref oP) (C := RX8) (T := TX8) (N := 2) hx hb hts (by decide +kernel) hown hK hP 0 rfl rfl 1 (by decide) (hts (.fieldLink RX8 21 "UnibusMachine" "processor" "LUnibusMachine$Processor;") (by decide +kernel)) (fun _ h9 => h9) rfl dX8_run_76 ?_
                              refine va_get (D := (dC, dI)) (ci := 5) (v := .int 0) (C := RX6) (T := TX6) (N := 9) hx hb hts (by decide +kernel) hown hK hP 4 rfl rfl 4 (by decide) (hts (.fieldLink RX8 63 "UnibusMachine$Processor" "halted" "I") (by decide +kernel)) (fun _ h9 => h9) rfl dX8_run_79 ?_
                              refine lv_if_eq (tgt := 87) hx hb dX8_run_82 (by decide) (fun c39 => ?_) (fun c39 => ?_)
                              · skip
                                refine lv_iinc (v := 5) (lv' := [(2, .int 5), (0, .ref h0), (1, .int 4)]) hx hb dX8_run_87 hl (k := 0) rfl (by decide) (by decide) rfl (fun ls hl => ?_)
                                refine lv_goto (tgt := 39) hx hb dX8_run_90 (by decide) ?_
                                refine lv_iload_n hx hb dX8_run_39 rfl (lv_at hl 0 rfl) ?_
                                refine lv_iload_n hx hb dX8_run_40 rfl (lv_at hl 2 rfl) ?_
                                refine lv_icmp_gt (tgt := 93) hx hb dX8_run_41 (by decide) (fun c40 => ?_) (fun c40 => ?_)
                                · skip
                                  refine lv_iload_n hx hb dX8_run_93 rfl (lv_at hl 2 rfl) ?_
                                  have hx41 : u33.1 (2 : Int32).toNatClampNeg = 1 := by first | assumption | omega
                                  have hx42 : u33.1 (3 : Int32).toNatClampNeg = 224 := by first | assumption | omega
                                  have hx43 : u33.2 (7 : Int32).toNatClampNeg = 1 := by first | assumption | omega
                                  have hx44 : (u33.2 (6 : Int32).toNatClampNeg).toInt = z - 16 := by first | assumption | omega
                                  have hP9 := hP.sub (ws' := [(h0, .inr (7, [.ref oB, .ref oP])), (oP, .inr (5, [.ref ar, .ref oB, .ref oS, .int 0, .int 0, .int 0, .int 4, .int 0, .int 0])), (oB, .inr (0, [.ref am, .ref oM, .ref oS, .ref oK, .ref oL, .ref oD])), (oS, .inr (6, [.int 224, .int (-1)])), (oM, .inr (3, [.ref ad, .ref ab, .int 0])), (am, .inl (tm, 512, .inl u33.1)), (ar, .inl (tr, 8, .inl u33.2)), (oL, .inr (4, [.int 128, .int 0, .ref ap, .int 0, .int 0, .int 0, .int 0])), (oD, .inr (1, [.int 128, .int 0, .ref aw, .int 0, .int 0, .int 0, .int 0, .int 0, .int 0, .int 0])), (oK, .inr (2, [.int 0, .int 0, .int 0]))]) [0, 4, 5, 6, 1, 2, 3, 9, 7, 8] rfl
                                  have hD9 := hD.sub (ws' := [(h0, .inr (7, [.ref oB, .ref oP])), (oP, .inr (5, [.ref ar, .ref oB, .ref oS, .int 0, .int 0, .int 0, .int 4, .int 0, .int 0])), (oB, .inr (0, [.ref am, .ref oM, .ref oS, .ref oK, .ref oL, .ref oD])), (oS, .inr (6, [.int 224, .int (-1)])), (oM, .inr (3, [.ref ad, .ref ab, .int 0])), (am, .inl (tm, 512, .inl u33.1)), (ar, .inl (tr, 8, .inl u33.2)), (oL, .inr (4, [.int 128, .int 0, .ref ap, .int 0, .int 0, .int 0, .int 0])), (oD, .inr (1, [.int 128, .int 0, .ref aw, .int 0, .int 0, .int 0, .int 0, .int 0, .int 0, .int 0])), (oK, .inr (2, [.int 0, .int 0, .int 0]))]) [0, 4, 5, 6, 1, 2, 3, 9, 7, 8] (by decide) rfl
                                  have hK9 := hK.sub (tys' := [(tm, .int), (tr, .int)]) [0, 1] rfl
                                  exact W.iret (v := 4) hx hb hr (fun t ht hW => ⟨⟨4, (u33.1, u33.2), rfl, ⟨rfl, hx41, hx42, hx43, hx44⟩, by rw [ht]; exact hP9, va_K.moved hW.alike hK9, hD9, by rw [ht]; omega⟩, hS.F ht⟩) hS.2.2 dX8_run_94
                                · exact absurd c40 (by decide)
                              · exact absurd c39 (by decide)
                        · exact absurd c30 (by decide)
                  · exact absurd c21 (by decide)
            · exact absurd c12 (by decide)
      · exact absurd c3 (by decide)
    · exact absurd c2 (by decide)
