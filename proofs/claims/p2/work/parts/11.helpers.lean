set_option maxHeartbeats 4000000 in
set_option maxRecDepth 100000 in
theorem c_L_deposit4 (l : Launch) (dC : Nat → ClassId) (dI : Nat → Nat → Nat) (h0 : Nat) (oB : Nat) (oP : Nat) (am : Nat) (oM : Nat) (oS : Nat) (oK : Nat) (oL : Nat) (oD : Nat) (tm : ClassId) (f : Nat → Int32) (sz : Nat) : Met l yL_deposit wsL_deposit ({ frames := 2, cells := 0, slots := 0, locals := 42 } : Room) (va_Pc [.ref h0, .int 4, .int 1] (fun U => U.heap.size = sz ∧ va_P (dC, dI) vwCl [(h0, .inr (7, [.ref oB, .ref oP])), (oB, .inr (0, [.ref am, .ref oM, .ref oS, .ref oK, .ref oL, .ref oD])), (am, .inl (tm, 512, .inl f))] U.heap ∧ va_K (dC, dI) vwCl [(tm, .int)] U ∧ va_D (fun _ => True) [(h0, .inr (7, [.ref oB, .ref oP])), (oB, .inr (0, [.ref am, .ref oM, .ref oS, .ref oK, .ref oL, .ref oD])), (am, .inl (tm, 512, .inl f))])) (va_Qi (fun (r : Int32) (u : (Nat → Int32)) => (0 = r) ∧ (u (2 : Int32).toNatClampNeg = 1)) (fun (u : (Nat → Int32)) (t : State) => va_P (dC, dI) vwCl [(h0, .inr (7, [.ref oB, .ref oP])), (oB, .inr (0, [.ref am, .ref oM, .ref oS, .ref oK, .ref oL, .ref oD])), (am, .inl (tm, 512, .inl u))] t.heap ∧ va_K (dC, dI) vwCl [(tm, .int)] t ∧ va_D (va_A [(h0, .inr (7, [.ref oB, .ref oP])), (oB, .inr (0, [.ref am, .ref oM, .ref oS, .ref oK, .ref oL, .ref oD])), (am, .inl (tm, 512, .inl f))] sz) [(h0, .inr (7, [.ref oB, .ref oP])), (oB, .inr (0, [.ref am, .ref oM, .ref oS, .ref oK, .ref oL, .ref oD])), (am, .inl (tm, 512, .inl u))]) (va_A [(h0, .inr (7, [.ref oB, .ref oP])), (oB, .inr (0, [.ref am, .ref oM, .ref oS, .ref oK, .ref oL, .ref oD])), (am, .inl (tm, 512, .inl f))] sz)) 0 0 (va_A [(h0, .inr (7, [.ref oB, .ref oP])), (oB, .inr (0, [.ref am, .ref oM, .ref oS, .ref oK, .ref oL, .ref oD])), (am, .inl (tm, 512, .inl f))] sz) := by
  refine va_MetW (cc := cL_deposit) (maxL := 4) (ret := (some .int)) (by decide) rfl ?_
  intro p e s m args below meth c s₁ B hml hv
  obtain ⟨rfl, hsz, hP, hK, hD0⟩ := hv
  have hx := B.exec
  have hb := B.bytes
  have hr := B.returns
  have hts := atoms_spec (ws := wsL_deposit) B.pre
  have hown : s.vm.findClass RL = some m.cls := findClass_of_methodNamed B.named
  have hlocks := B.notSynchronized
  have htb := vx_table (x := yL_deposit) (y := yL_deposit) (bytes := cL_deposit) (maxL' := 4) (ret' := (some .int)) (hh := [(0, 6, 9, 13)]) B (hts _ List.mem_cons_self)
  have hD := hD0.self (sz := sz)
  generalize hAe : va_A [(h0, .inr (7, [.ref oB, .ref oP])), (oB, .inr (0, [.ref am, .ref oM, .ref oS, .ref oK, .ref oL, .ref oD])), (am, .inl (tm, 512, .inl f))] sz = A at hD ⊢
  have hA : ∀ q : Nat, s.heap.size ≤ q → A q := fun q h => by rw [← hAe]; exact Or.inr (by omega)
  have hS0 : ∀ G : Heap, s.heap = G → va_S A s.heap G [] := fun G h => by subst h; exact va_S.rf
  generalize hHe : s.heap = H at hP ⊢
  have hS := hS0 H hHe
  have hP : va_P (dC, dI) vwCl [(h0, .inr (7, [.ref oB, .ref oP])), (oB, .inr (0, [.ref am, .ref oM, .ref oS, .ref oK, .ref oL, .ref oD])), (am, .inl (tm, 512, .inl f))] H := hP
  have hD : va_D A [(h0, .inr (7, [.ref oB, .ref oP])), (oB, .inr (0, [.ref am, .ref oM, .ref oS, .ref oK, .ref oL, .ref oD])), (am, .inl (tm, 512, .inl f))] := hD
  have hK : va_K (dC, dI) vwCl [(tm, .int)] s := hK
  have hl := lv_entry ([.ref h0, .int 4, .int 1]) (n := 4) (Nat.le_of_ble_eq_true rfl)
  rw [lg_entry_eq]
  generalize (lg_sl ([.ref h0, .int 4, .int 1]) ++ List.replicate (4 - (lg_sl ([.ref h0, .int 4, .int 1])).length) Slot.unset).toArray = ls at hl ⊢
  have hl : lv_has ls 4 [(0, .ref h0), (1, .int 4), (2, .int 1)] := hl
  refine lv_aload_n hx hb dL_deposit_0 rfl (lv_at hl 0 rfl) ?_
  refine lv_iload_n hx hb dL_deposit_1 rfl (lv_at hl 1 rfl) ?_
  refine lv_iload_n hx hb dL_deposit_2 rfl (lv_at hl 2 rfl) ?_
  have hPc := hP.sub (ws' := [(h0, .inr (7, [.ref oB, .ref oP])), (oB, .inr (0, [.ref am, .ref oM, .ref oS, .ref oK, .ref oL, .ref oD])), (am, .inl (tm, 512, .inl f))]) [0, 1, 2] rfl
  have hDc := hD.sub (ws' := [(h0, .inr (7, [.ref oB, .ref oP])), (oB, .inr (0, [.ref am, .ref oM, .ref oS, .ref oK, .ref oL, .ref oD])), (am, .inl (tm, 512, .inl f))]) [0, 1, 2] (by decide) rfl
  have hKc := hK.sub (tys' := [(tm, .int)]) [0] rfl
  have hFc := va_free (wc := [(h0, .inr (7, [.ref oB, .ref oP])), (oB, .inr (0, [.ref am, .ref oM, .ref oS, .ref oK, .ref oL, .ref oD])), (am, .inl (tm, 512, .inl f))]) hD hS hA [0, 1, 2] rfl
  refine va_callv (va_runV (As := [.int 4, .int 1]) (rest := []) ⟨hx, hb, hml, hown, hts⟩ (c_f_deposit4 l dC dI h0 oB oP am oM oS oK oL oD tm f H.size) (cwV 2 hts gL_deposit_X8_deposit rfl rfl rfl (by decide +kernel) ⟨Nat.le_of_ble_eq_true rfl, Nat.le_of_ble_eq_true rfl⟩) ⟨fun a U g mk q => by obtain ⟨q0, q1, qP, qK, qD⟩ := q; exact ⟨q0, q1, qP, va_K.moved (u := U) (U := U.calling g mk a) (Vm.Alike.refl U.vm) qK, qD⟩, va_recv hKc hPc (ci := 7) (q0 := 0) rfl rfl, fun U hU hW => ⟨rfl, by rw [hU], by rw [hU]; exact hPc, va_K.moved hW.alike hKc, hDc.weaken (fun _ _ _ _ => trivial)⟩⟩ rfl rfl hl.1 rfl (lv_room (Nat.le_of_ble_eq_true rfl)) dL_deposit_3 ⟨Nat.le_of_ble_eq_true rfl, Nat.le_of_ble_eq_true rfl⟩) hS (fun q _ h => hFc q h) hFc (fun u2 t H1 locs ht hvm hw hB hz1 hk1 hS => ?_)
  obtain ⟨hP1, hK1, hD1⟩ := hB
  rw [ht] at hP1
  have hK1 := va_K.moved hvm.symm hK1
  try dsimp only at hw
  obtain ⟨hP, hD⟩ := va_join (wr := []) (w1 := [(h0, .inr (7, [.ref oB, .ref oP])), (oB, .inr (0, [.ref am, .ref oM, .ref oS, .ref oK, .ref oL, .ref oD])), (am, .inl (tm, 512, .inl u2))]) hP hD [0, 1, 2] [] rfl rfl (by decide) (by decide) hk1 hFc hP1 hD1
  have hK := (hK.sub (tys' := []) [] rfl).app hK1
  generalize H1 = H at hP hS ⊢
  have hP : va_P (dC, dI) vwCl [(h0, .inr (7, [.ref oB, .ref oP])), (oB, .inr (0, [.ref am, .ref oM, .ref oS, .ref oK, .ref oL, .ref oD])), (am, .inl (tm, 512, .inl u2))] H := hP
  have hD : va_D A [(h0, .inr (7, [.ref oB, .ref oP])), (oB, .inr (0, [.ref am, .ref oM, .ref oS, .ref oK, .ref oL, .ref oD])), (am, .inl (tm, 512, .inl u2))] := hD
  have hK : va_K (dC, dI) vwCl [(tm, .int)] s := hK
  refine W.widen (k := 0) (n := 0) (Nat.le_of_ble_eq_true rfl) (Nat.le_of_ble_eq_true rfl) ?_
  refine lv_goto (tgt := 12) hx hb dL_deposit_6 (by decide) ?_
  refine lv_iconst (v := 0) hx hb dL_deposit_12 (by decide) ?_
  have hx3 : u2 (2 : Int32).toNatClampNeg = 1 := by first | assumption | omega
  have hP9 := hP.sub (ws' := [(h0, .inr (7, [.ref oB, .ref oP])), (oB, .inr (0, [.ref am, .ref oM, .ref oS, .ref oK, .ref oL, .ref oD])), (am, .inl (tm, 512, .inl u2))]) [0, 1, 2] rfl
  have hD9 := hD.sub (ws' := [(h0, .inr (7, [.ref oB, .ref oP])), (oB, .inr (0, [.ref am, .ref oM, .ref oS, .ref oK, .ref oL, .ref oD])), (am, .inl (tm, 512, .inl u2))]) [0, 1, 2] (by decide) rfl
  have hK9 := hK.sub (tys' := [(tm, .int)]) [0] rfl
  exact W.iret (v := 0) hx hb hr (fun t ht hW => ⟨⟨0, (u2), rfl, ⟨rfl, hx3⟩, by rw [ht]; exact hP9, va_K.moved hW.alike hK9, hD9⟩, hS.F ht⟩) hS.2.2 dL_deposit_13
set_option maxHeartbeats 4000000 in
set_option maxRecDepth 100000 in
theorem c_L_deposit6 (l : Launch) (dC : Nat → ClassId) (dI : Nat → Nat → Nat) (h0 : Nat) (oB : Nat) (oP : Nat) (am : Nat) (oM : Nat) (oS : Nat) (oK : Nat) (oL : Nat) (oD : Nat) (tm : ClassId) (f : Nat → Int32) (sz : Nat) (hF0 : f (2 : Int32).toNatClampNeg = 1) : Met l yL_deposit wsL_deposit ({ frames := 2, cells := 0, slots := 0, locals := 42 } : Room) (va_Pc [.ref h0, .int 6, .int 224] (fun U => U.heap.size = sz ∧ va_P (dC, dI) vwCl [(h0, .inr (7, [.ref oB, .ref oP])), (oB, .inr (0, [.ref am, .ref oM, .ref oS, .ref oK, .ref oL, .ref oD])), (am, .inl (tm, 512, .inl f))] U.heap ∧ va_K (dC, dI) vwCl [(tm, .int)] U ∧ va_D (fun _ => True) [(h0, .inr (7, [.ref oB, .ref oP])), (oB, .inr (0, [.ref am, .ref oM, .ref oS, .ref oK, .ref oL, .ref oD])), (am, .inl (tm, 512, .inl f))])) (va_Qi (fun (r : Int32) (u : (Nat → Int32)) => (0 = r) ∧ (u (2 : Int32).toNatClampNeg = 1) ∧ (u (3 : Int32).toNatClampNeg = 224)) (fun (u : (Nat → Int32)) (t : State) => va_P (dC, dI) vwCl [(h0, .inr (7, [.ref oB, .ref oP])), (oB, .inr (0, [.ref am, .ref oM, .ref oS, .ref oK, .ref oL, .ref oD])), (am, .inl (tm, 512, .inl u))] t.heap ∧ va_K (dC, dI) vwCl [(tm, .int)] t ∧ va_D (va_A [(h0, .inr (7, [.ref oB, .ref oP])), (oB, .inr (0, [.ref am, .ref oM, .ref oS, .ref oK, .ref oL, .ref oD])), (am, .inl (tm, 512, .inl f))] sz) [(h0, .inr (7, [.ref oB, .ref oP])), (oB, .inr (0, [.ref am, .ref oM, .ref oS, .ref oK, .ref oL, .ref oD])), (am, .inl (tm, 512, .inl u))]) (va_A [(h0, .inr (7, [.ref oB, .ref oP])), (oB, .inr (0, [.ref am, .ref oM, .ref oS, .ref oK, .ref oL, .ref oD])), (am, .inl (tm, 512, .inl f))] sz)) 0 0 (va_A [(h0, .inr (7, [.ref oB, .ref oP])), (oB, .inr (0, [.ref am, .ref oM, .ref oS, .ref oK, .ref oL, .ref oD])), (am, .inl (tm, 512, .inl f))] sz) := by
  refine va_MetW (cc := cL_deposit) (maxL := 4) (ret := (some .int)) (by decide) rfl ?_
  intro p e s m args below meth c s₁ B hml hv
  obtain ⟨rfl, hsz, hP, hK, hD0⟩ := hv
  have hx := B.exec
  have hb := B.bytes
  have hr := B.returns
  have hts := atoms_spec (ws := wsL_deposit) B.pre
  have hown : s.vm.findClass RL = some m.cls := findClass_of_methodNamed B.named
  have hlocks := B.notSynchronized
  have htb := vx_table (x := yL_deposit) (y := yL_deposit) (bytes := cL_deposit) (maxL' := 4) (ret' := (some .int)) (hh := [(0, 6, 9, 13)]) B (hts _ List.mem_cons_self)
  have hD := hD0.self (sz := sz)
  generalize hAe : va_A [(h0, .inr (7, [.ref oB, .ref oP])), (oB, .inr (0, [.ref am, .ref oM, .ref oS, .ref oK, .ref oL, .ref oD])), (am, .inl (tm, 512, .inl f))] sz = A at hD ⊢
  have hA : ∀ q : Nat, s.heap.size ≤ q → A q := fun q h => by rw [← hAe]; exact Or.inr (by omega)
  have hS0 : ∀ G : Heap, s.heap = G → va_S A s.heap G [] := fun G h => by subst h; exact va_S.rf
  generalize hHe : s.heap = H at hP ⊢
  have hS := hS0 H hHe
  have hP : va_P (dC, dI) vwCl [(h0, .inr (7, [.ref oB, .ref oP])), (oB, .inr (0, [.ref am, .ref oM, .ref oS, .ref oK, .ref oL, .ref oD])), (am, .inl (tm, 512, .inl f))] H := hP
  have hD : va_D A [(h0, .inr (7, [.ref oB, .ref oP])), (oB, .inr (0, [.ref am, .ref oM, .ref oS, .ref oK, .ref oL, .ref oD])), (am, .inl (tm, 512, .inl f))] := hD
  have hK : va_K (dC, dI) vwCl [(tm, .int)] s := hK
  have hl := lv_entry ([.ref h0, .int 6, .int 224]) (n := 4) (Nat.le_of_ble_eq_true rfl)
  rw [lg_entry_eq]
  generalize (lg_sl ([.ref h0, .int 6, .int 224]) ++ List.replicate (4 - (lg_sl ([.ref h0, .int 6, .int 224])).length) Slot.unset).toArray = ls at hl ⊢
  have hl : lv_has ls 4 [(0, .ref h0), (1, .int 6), (2, .int 224)] := hl
  refine lv_aload_n hx hb dL_deposit_0 rfl (lv_at hl 0 rfl) ?_
  refine lv_iload_n hx hb dL_deposit_1 rfl (lv_at hl 1 rfl) ?_
  refine lv_iload_n hx hb dL_deposit_2 rfl (lv_at hl 2 rfl) ?_
  have hPc := hP.sub (ws' := [(h0, .inr (7, [.ref oB, .ref oP])), (oB, .inr (0, [.ref am, .ref oM, .ref oS, .ref oK, .ref oL, .ref oD])), (am, .inl (tm, 512, .inl f))]) [0, 1, 2] rfl
  have hDc := hD.sub (ws' := [(h0, .inr (7, [.ref oB, .ref oP])), (oB, .inr (0, [.ref am, .ref oM, .ref oS, .ref oK, .ref oL, .ref oD])), (am, .inl (tm, 512, .inl f))]) [0, 1, 2] (by decide) rfl
  have hKc := hK.sub (tys' := [(tm, .int)]) [0] rfl
  have hFc := va_free (wc := [(h0, .inr (7, [.ref oB, .ref oP])), (oB, .inr (0, [.ref am, .ref oM, .ref oS, .ref oK, .ref oL, .ref oD])), (am, .inl (tm, 512, .inl f))]) hD hS hA [0, 1, 2] rfl
  refine va_callv (va_runV (As := [.int 6, .int 224]) (rest := []) ⟨hx, hb, hml, hown, hts⟩ (c_f_deposit6 l dC dI h0 oB oP am oM oS oK oL oD tm f H.size (by first | assumption | omega | decide)) (cwV 2 hts gL_deposit_X8_deposit rfl rfl rfl (by decide +kernel) ⟨Nat.le_of_ble_eq_true rfl, Nat.le_of_ble_eq_true rfl⟩) ⟨fun a U g mk q => by obtain ⟨q0, q1, qP, qK, qD⟩ := q; exact ⟨q0, q1, qP, va_K.moved (u := U) (U := U.calling g mk a) (Vm.Alike.refl U.vm) qK, qD⟩, va_recv hKc hPc (ci := 7) (q0 := 0) rfl rfl, fun U hU hW => ⟨rfl, by rw [hU], by rw [hU]; exact hPc, va_K.moved hW.alike hKc, hDc.weaken (fun _ _ _ _ => trivial)⟩⟩ rfl rfl hl.1 rfl (lv_room (Nat.le_of_ble_eq_true rfl)) dL_deposit_3 ⟨Nat.le_of_ble_eq_true rfl, Nat.le_of_ble_eq_true rfl⟩) hS (fun q _ h => hFc q h) hFc (fun u2 t H1 locs ht hvm hw hB hz1 hk1 hS => ?_)
  obtain ⟨hP1, hK1, hD1⟩ := hB
  rw [ht] at hP1
  have hK1 := va_K.moved hvm.symm hK1
  try dsimp only at hw
  obtain ⟨hP, hD⟩ := va_join (wr := []) (w1 := [(h0, .inr (7, [.ref oB, .ref oP])), (oB, .inr (0, [.ref am, .ref oM, .ref oS, .ref oK, .ref oL, .ref oD])), (am, .inl (tm, 512, .inl u2))]) hP hD [0, 1, 2] [] rfl rfl (by decide) (by decide) hk1 hFc hP1 hD1
  have hK := (hK.sub (tys' := []) [] rfl).app hK1
  generalize H1 = H at hP hS ⊢
  have hP : va_P (dC, dI) vwCl [(h0, .inr (7, [.ref oB, .ref oP])), (oB, .inr (0, [.ref am, .ref oM, .ref oS, .ref oK, .ref oL, .ref oD])), (am, .inl (tm, 512, .inl u2))] H := hP
  have hD : va_D A [(h0, .inr (7, [.ref oB, .ref oP])), (oB, .inr (0, [.ref am, .ref oM, .ref oS, .ref oK, .ref oL, .ref oD])), (am, .inl (tm, 512, .inl u2))] := hD
  have hK : va_K (dC, dI) vwCl [(tm, .int)] s := hK
  refine W.widen (k := 0) (n := 0) (Nat.le_of_ble_eq_true rfl) (Nat.le_of_ble_eq_true rfl) ?_
  obtain ⟨_, _⟩ := hw
  refine lv_goto (tgt := 12) hx hb dL_deposit_6 (by decide) ?_
  refine lv_iconst (v := 0) hx hb dL_deposit_12 (by decide) ?_
  have hx3 : u2 (2 : Int32).toNatClampNeg = 1 := by first | assumption | omega
  have hx4 : u2 (3 : Int32).toNatClampNeg = 224 := by first | assumption | omega
  have hP9 := hP.sub (ws' := [(h0, .inr (7, [.ref oB, .ref oP])), (oB, .inr (0, [.ref am, .ref oM, .ref oS, .ref oK, .ref oL, .ref oD])), (am, .inl (tm, 512, .inl u2))]) [0, 1, 2] rfl
  have hD9 := hD.sub (ws' := [(h0, .inr (7, [.ref oB, .ref oP])), (oB, .inr (0, [.ref am, .ref oM, .ref oS, .ref oK, .ref oL, .ref oD])), (am, .inl (tm, 512, .inl u2))]) [0, 1, 2] (by decide) rfl
  have hK9 := hK.sub (tys' := [(tm, .int)]) [0] rfl
  exact W.iret (v := 0) hx hb hr (fun t ht hW => ⟨⟨0, (u2), rfl, ⟨rfl, hx3, hx4⟩, by rw [ht]; exact hP9, va_K.moved hW.alike hK9, hD9⟩, hS.F ht⟩) hS.2.2 dL_deposit_13
set_option maxHeartbeats 4000000 in
set_option maxRecDepth 100000 in
theorem c_L_set (l : Launch) (dC : Nat → ClassId) (dI : Nat → Nat → Nat) (h0 : Nat) (oB : Nat) (oP : Nat) (oS : Nat) (ar : Nat) (tr : ClassId) (g : Nat → Int32) (sz : Nat) : Met l yL_set wsL_set ({ frames := 2, cells := 0, slots := 0, locals := 44 } : Room) (va_Pc [.ref h0, .int 6, .int 1024] (fun U => U.heap.size = sz ∧ va_P (dC, dI) vwCl [(h0, .inr (7, [.ref oB, .ref oP])), (oP, .inr (5, [.ref ar, .ref oB, .ref oS, .int 0, .int 2, .int 0, .int 0, .int 0, .int 0])), (oS, .inr (6, [.int 0, .int (-1)])), (ar, .inl (tr, 8, .inl g))] U.heap ∧ va_K (dC, dI) vwCl [(tr, .int)] U ∧ va_D (fun _ => True) [(h0, .inr (7, [.ref oB, .ref oP])), (oP, .inr (5, [.ref ar, .ref oB, .ref oS, .int 0, .int 2, .int 0, .int 0, .int 0, .int 0])), (oS, .inr (6, [.int 0, .int (-1)])), (ar, .inl (tr, 8, .inl g))])) (va_Qi (fun (r : Int32) (u : (Nat → Int32)) => (0 = r) ∧ (u (6 : Int32).toNatClampNeg = 1024)) (fun (u : (Nat → Int32)) (t : State) => va_P (dC, dI) vwCl [(h0, .inr (7, [.ref oB, .ref oP])), (oP, .inr (5, [.ref ar, .ref oB, .ref oS, .int 0, .int 2, .int 0, .int 0, .int 0, .int 0])), (oS, .inr (6, [.int 0, .int (-1)])), (ar, .inl (tr, 8, .inl u))] t.heap ∧ va_K (dC, dI) vwCl [(tr, .int)] t ∧ va_D (va_A [(h0, .inr (7, [.ref oB, .ref oP])), (oP, .inr (5, [.ref ar, .ref oB, .ref oS, .int 0, .int 2, .int 0, .int 0, .int 0, .int 0])), (oS, .inr (6, [.int 0, .int (-1)])), (ar, .inl (tr, 8, .inl g))] sz) [(h0, .inr (7, [.ref oB, .ref oP])), (oP, .inr (5, [.ref ar, .ref oB, .ref oS, .int 0, .int 2, .int 0, .int 0, .int 0, .int 0])), (oS, .inr (6, [.int 0, .int (-1)])), (ar, .inl (tr, 8, .inl u))]) (va_A [(h0, .inr (7, [.ref oB, .ref oP])), (oP, .inr (5, [.ref ar, .ref oB, .ref oS, .int 0, .int 2, .int 0, .int 0, .int 0, .int 0])), (oS, .inr (6, [.int 0, .int (-1)])), (ar, .inl (tr, 8, .inl g))] sz)) 0 0 (va_A [(h0, .inr (7, [.ref oB, .ref oP])), (oP, .inr (5, [.ref ar, .ref oB, .ref oS, .int 0, .int 2, .int 0, .int 0, .int 0, .int 0])), (oS, .inr (6, [.int 0, .int (-1)])), (ar, .inl (tr, 8, .inl g))] sz) := by
  refine va_MetW (cc := cL_set) (maxL := 4) (ret := (some .int)) (by decide) rfl ?_
  intro p e s m args below meth c s₁ B hml hv
  obtain ⟨rfl, hsz, hP, hK, hD0⟩ := hv
  have hx := B.exec
  have hb := B.bytes
  have hr := B.returns
  have hts := atoms_spec (ws := wsL_set) B.pre
  have hown : s.vm.findClass RL = some m.cls := findClass_of_methodNamed B.named
  have hlocks := B.notSynchronized
  have htb := vx_table (x := yL_set) (y := yL_set) (bytes := cL_set) (maxL' := 4) (ret' := (some .int)) (hh := [(0, 6, 9, 13)]) B (hts _ List.mem_cons_self)
  have hD := hD0.self (sz := sz)
  generalize hAe : va_A [(h0, .inr (7, [.ref oB, .ref oP])), (oP, .inr (5, [.ref ar, .ref oB, .ref oS, .int 0, .int 2, .int 0, .int 0, .int 0, .int 0])), (oS, .inr (6, [.int 0, .int (-1)])), (ar, .inl (tr, 8, .inl g))] sz = A at hD ⊢
  have hA : ∀ q : Nat, s.heap.size ≤ q → A q := fun q h => by rw [← hAe]; exact Or.inr (by omega)
  have hS0 : ∀ G : Heap, s.heap = G → va_S A s.heap G [] := fun G h => by subst h; exact va_S.rf
  generalize hHe : s.heap = H at hP ⊢
  have hS := hS0 H hHe
  have hP : va_P (dC, dI) vwCl [(h0, .inr (7, [.ref oB, .ref oP])), (oP, .inr (5, [.ref ar, .ref oB, .ref oS, .int 0, .int 2, .int 0, .int 0, .int 0, .int 0])), (oS, .inr (6, [.int 0, .int (-1)])), (ar, .inl (tr, 8, .inl g))] H := hP
  have hD : va_D A [(h0, .inr (7, [.ref oB, .ref oP])), (oP, .inr (5, [.ref ar, .ref oB, .ref oS, .int 0, .int 2, .int 0, .int 0, .int 0, .int 0])), (oS, .inr (6, [.int 0, .int (-1)])), (ar, .inl (tr, 8, .inl g))] := hD
  have hK : va_K (dC, dI) vwCl [(tr, .int)] s := hK
  have hl := lv_entry ([.ref h0, .int 6, .int 1024]) (n := 4) (Nat.le_of_ble_eq_true rfl)
  rw [lg_entry_eq]
  generalize (lg_sl ([.ref h0, .int 6, .int 1024]) ++ List.replicate (4 - (lg_sl ([.ref h0, .int 6, .int 1024])).length) Slot.unset).toArray = ls at hl ⊢
  have hl : lv_has ls 4 [(0, .ref h0), (1, .int 6), (2, .int 1024)] := hl
  refine lv_aload_n hx hb dL_set_0 rfl (lv_at hl 0 rfl) ?_
  refine lv_iload_n hx hb dL_set_1 rfl (lv_at hl 1 rfl) ?_
  refine lv_iload_n hx hb dL_set_2 rfl (lv_at hl 2 rfl) ?_
  have hPc := hP.sub (ws' := [(h0, .inr (7, [.ref oB, .ref oP])), (oP, .inr (5, [.ref ar, .ref oB, .ref oS, .int 0, .int 2, .int 0, .int 0, .int 0, .int 0])), (oS, .inr (6, [.int 0, .int (-1)])), (ar, .inl (tr, 8, .inl g))]) [0, 1, 2, 3] rfl
  have hDc := hD.sub (ws' := [(h0, .inr (7, [.ref oB, .ref oP])), (oP, .inr (5, [.ref ar, .ref oB, .ref oS, .int 0, .int 2, .int 0, .int 0, .int 0, .int 0])), (oS, .inr (6, [.int 0, .int (-1)])), (ar, .inl (tr, 8, .inl g))]) [0, 1, 2, 3] (by decide) rfl
  have hKc := hK.sub (tys' := [(tr, .int)]) [0] rfl
  have hFc := va_free (wc := [(h0, .inr (7, [.ref oB, .ref oP])), (oP, .inr (5, [.ref ar, .ref oB, .ref oS, .int 0, .int 2, .int 0, .int 0, .int 0, .int 0])), (oS, .inr (6, [.int 0, .int (-1)])), (ar, .inl (tr, 8, .inl g))]) hD hS hA [0, 1, 2, 3] rfl
  refine va_callv (va_runV (As := [.int 6, .int 1024]) (rest := []) ⟨hx, hb, hml, hown, hts⟩ (c_f_set l dC dI h0 oB oP oS ar tr g H.size) (cwV 2 hts gL_set_X8_set rfl rfl rfl (by decide +kernel) ⟨Nat.le_of_ble_eq_true rfl, Nat.le_of_ble_eq_true rfl⟩) ⟨fun a U g mk q => by obtain ⟨q0, q1, qP, qK, qD⟩ := q; exact ⟨q0, q1, qP, va_K.moved (u := U) (U := U.calling g mk a) (Vm.Alike.refl U.vm) qK, qD⟩, va_recv hKc hPc (ci := 7) (q0 := 0) rfl rfl, fun U hU hW => ⟨rfl, by rw [hU], by rw [hU]; exact hPc, va_K.moved hW.alike hKc, hDc.weaken (fun _ _ _ _ => trivial)⟩⟩ rfl rfl hl.1 rfl (lv_room (Nat.le_of_ble_eq_true rfl)) dL_set_3 ⟨Nat.le_of_ble_eq_true rfl, Nat.le_of_ble_eq_true rfl⟩) hS (fun q _ h => hFc q h) hFc (fun u2 t H1 locs ht hvm hw hB hz1 hk1 hS => ?_)
  obtain ⟨hP1, hK1, hD1⟩ := hB
  rw [ht] at hP1
  have hK1 := va_K.moved hvm.symm hK1
  try dsimp only at hw
  obtain ⟨hP, hD⟩ := va_join (wr := []) (w1 := [(h0, .inr (7, [.ref oB, .ref oP])), (oP, .inr (5, [.ref ar, .ref oB, .ref oS, .int 0, .int 2, .int 0, .int 0, .int 0, .int 0])), (oS, .inr (6, [.int 0, .int (-1)])), (ar, .inl (tr, 8, .inl u2))]) hP hD [0, 1, 2, 3] [] rfl rfl (by decide) (by decide) hk1 hFc hP1 hD1
  have hK := (hK.sub (tys' := []) [] rfl).app hK1
  generalize H1 = H at hP hS ⊢
  have hP : va_P (dC, dI) vwCl [(h0, .inr (7, [.ref oB, .ref oP])), (oP, .inr (5, [.ref ar, .ref oB, .ref oS, .int 0, .int 2, .int 0, .int 0, .int 0, .int 0])), (oS, .inr (6, [.int 0, .int (-1)])), (ar, .inl (tr, 8, .inl u2))] H := hP
  have hD : va_D A [(h0, .inr (7, [.ref oB, .ref oP])), (oP, .inr (5, [.ref ar, .ref oB, .ref oS, .int 0, .int 2, .int 0, .int 0, .int 0, .int 0])), (oS, .inr (6, [.int 0, .int (-1)])), (ar, .inl (tr, 8, .inl u2))] := hD
  have hK : va_K (dC, dI) vwCl [(tr, .int)] s := hK
  refine W.widen (k := 0) (n := 0) (Nat.le_of_ble_eq_true rfl) (Nat.le_of_ble_eq_true rfl) ?_
  refine lv_goto (tgt := 12) hx hb dL_set_6 (by decide) ?_
  refine lv_iconst (v := 0) hx hb dL_set_12 (by decide) ?_
  have hx3 : u2 (6 : Int32).toNatClampNeg = 1024 := by first | assumption | omega
  have hP9 := hP.sub (ws' := [(h0, .inr (7, [.ref oB, .ref oP])), (oP, .inr (5, [.ref ar, .ref oB, .ref oS, .int 0, .int 2, .int 0, .int 0, .int 0, .int 0])), (oS, .inr (6, [.int 0, .int (-1)])), (ar, .inl (tr, 8, .inl u2))]) [0, 1, 2, 3] rfl
  have hD9 := hD.sub (ws' := [(h0, .inr (7, [.ref oB, .ref oP])), (oP, .inr (5, [.ref ar, .ref oB, .ref oS, .int 0, .int 2, .int 0, .int 0, .int 0, .int 0])), (oS, .inr (6, [.int 0, .int (-1)])), (ar, .inl (tr, 8, .inl u2))]) [0, 1, 2, 3] (by decide) rfl
  have hK9 := hK.sub (tys' := [(tr, .int)]) [0] rfl
  exact W.iret (v := 0) hx hb hr (fun t ht hW => ⟨⟨0, (u2), rfl, ⟨rfl, hx3⟩, by rw [ht]; exact hP9, va_K.moved hW.alike hK9, hD9⟩, hS.F ht⟩) hS.2.2 dL_set_13
set_option maxHeartbeats 4000000 in
set_option maxRecDepth 100000 in
theorem c_L_start (l : Launch) (dC : Nat → ClassId) (dI : Nat → Nat → Nat) (h0 : Nat) (oB : Nat) (oP : Nat) (oS : Nat) (ar : Nat) (tr : ClassId) (g : Nat → Int32) (sz : Nat) (hF0 : g (6 : Int32).toNatClampNeg = 1024) : Met l yL_start wsL_start ({ frames := 2, cells := 0, slots := 0, locals := 44 } : Room) (va_Pc [.ref h0, .int 1] (fun U => U.heap.size = sz ∧ va_P (dC, dI) vwCl [(h0, .inr (7, [.ref oB, .ref oP])), (oP, .inr (5, [.ref ar, .ref oB, .ref oS, .int 0, .int 2, .int 0, .int 0, .int 0, .int 0])), (oS, .inr (6, [.int 0, .int (-1)])), (ar, .inl (tr, 8, .inl g))] U.heap ∧ va_K (dC, dI) vwCl [(tr, .int)] U ∧ va_D (fun _ => True) [(h0, .inr (7, [.ref oB, .ref oP])), (oP, .inr (5, [.ref ar, .ref oB, .ref oS, .int 0, .int 2, .int 0, .int 0, .int 0, .int 0])), (oS, .inr (6, [.int 0, .int (-1)])), (ar, .inl (tr, 8, .inl g))])) (va_Qi (fun (r : Int32) (u : (Nat → Int32)) => (0 = r) ∧ (u (7 : Int32).toNatClampNeg = 1) ∧ (u (6 : Int32).toNatClampNeg = 1024)) (fun (u : (Nat → Int32)) (t : State) => va_P (dC, dI) vwCl [(h0, .inr (7, [.ref oB, .ref oP])), (oP, .inr (5, [.ref ar, .ref oB, .ref oS, .int 0, .int 0, .int 0, .int 0, .int 0, .int 0])), (oS, .inr (6, [.int 224, .int (-1)])), (ar, .inl (tr, 8, .inl u))] t.heap ∧ va_K (dC, dI) vwCl [(tr, .int)] t ∧ va_D (va_A [(h0, .inr (7, [.ref oB, .ref oP])), (oP, .inr (5, [.ref ar, .ref oB, .ref oS, .int 0, .int 2, .int 0, .int 0, .int 0, .int 0])), (oS, .inr (6, [.int 0, .int (-1)])), (ar, .inl (tr, 8, .inl g))] sz) [(h0, .inr (7, [.ref oB, .ref oP])), (oP, .inr (5, [.ref ar, .ref oB, .ref oS, .int 0, .int 0, .int 0, .int 0, .int 0, .int 0])), (oS, .inr (6, [.int 224, .int (-1)])), (ar, .inl (tr, 8, .inl u))]) (va_A [(h0, .inr (7, [.ref oB, .ref oP])), (oP, .inr (5, [.ref ar, .ref oB, .ref oS, .int 0, .int 2, .int 0, .int 0, .int 0, .int 0])), (oS, .inr (6, [.int 0, .int (-1)])), (ar, .inl (tr, 8, .inl g))] sz)) 0 0 (va_A [(h0, .inr (7, [.ref oB, .ref oP])), (oP, .inr (5, [.ref ar, .ref oB, .ref oS, .int 0, .int 2, .int 0, .int 0, .int 0, .int 0])), (oS, .inr (6, [.int 0, .int (-1)])), (ar, .inl (tr, 8, .inl g))] sz) := by
  refine va_MetW (cc := cL_start) (maxL := 3) (ret := (some .int)) (by decide) rfl ?_
  intro p e s m args below meth c s₁ B hml hv
  obtain ⟨rfl, hsz, hP, hK, hD0⟩ := hv
  have hx := B.exec
  have hb := B.bytes
  have hr := B.returns
  have hts := atoms_spec (ws := wsL_start) B.pre
  have hown : s.vm.findClass RL = some m.cls := findClass_of_methodNamed B.named
  have hlocks := B.notSynchronized
  have htb := vx_table (x := yL_start) (y := yL_start) (bytes := cL_start) (maxL' := 3) (ret' := (some .int)) (hh := [(0, 5, 8, 13)]) B (hts _ List.mem_cons_self)
  have hD := hD0.self (sz := sz)
  generalize hAe : va_A [(h0, .inr (7, [.ref oB, .ref oP])), (oP, .inr (5, [.ref ar, .ref oB, .ref oS, .int 0, .int 2, .int 0, .int 0, .int 0, .int 0])), (oS, .inr (6, [.int 0, .int (-1)])), (ar, .inl (tr, 8, .inl g))] sz = A at hD ⊢
  have hA : ∀ q : Nat, s.heap.size ≤ q → A q := fun q h => by rw [← hAe]; exact Or.inr (by omega)
  have hS0 : ∀ G : Heap, s.heap = G → va_S A s.heap G [] := fun G h => by subst h; exact va_S.rf
  generalize hHe : s.heap = H at hP ⊢
  have hS := hS0 H hHe
  have hP : va_P (dC, dI) vwCl [(h0, .inr (7, [.ref oB, .ref oP])), (oP, .inr (5, [.ref ar, .ref oB, .ref oS, .int 0, .int 2, .int 0, .int 0, .int 0, .int 0])), (oS, .inr (6, [.int 0, .int (-1)])), (ar, .inl (tr, 8, .inl g))] H := hP
  have hD : va_D A [(h0, .inr (7, [.ref oB, .ref oP])), (oP, .inr (5, [.ref ar, .ref oB, .ref oS, .int 0, .int 2, .int 0, .int 0, .int 0, .int 0])), (oS, .inr (6, [.int 0, .int (-1)])), (ar, .inl (tr, 8, .inl g))] := hD
  have hK : va_K (dC, dI) vwCl [(tr, .int)] s := hK
  have hl := lv_entry ([.ref h0, .int 1]) (n := 3) (Nat.le_of_ble_eq_true rfl)
  rw [lg_entry_eq]
  generalize (lg_sl ([.ref h0, .int 1]) ++ List.replicate (3 - (lg_sl ([.ref h0, .int 1])).length) Slot.unset).toArray = ls at hl ⊢
  have hl : lv_has ls 3 [(0, .ref h0), (1, .int 1)] := hl
  refine lv_aload_n hx hb dL_start_0 rfl (lv_at hl 0 rfl) ?_
  refine lv_iload_n hx hb dL_start_1 rfl (lv_at hl 1 rfl) ?_
  have hPc := hP.sub (ws' := [(h0, .inr (7, [.ref oB, .ref oP])), (oP, .inr (5, [.ref ar, .ref oB, .ref oS, .int 0, .int 2, .int 0, .int 0, .int 0, .int 0])), (oS, .inr (6, [.int 0, .int (-1)])), (ar, .inl (tr, 8, .inl g))]) [0, 1, 2, 3] rfl
  have hDc := hD.sub (ws' := [(h0, .inr (7, [.ref oB, .ref oP])), (oP, .inr (5, [.ref ar, .ref oB, .ref oS, .int 0, .int 2, .int 0, .int 0, .int 0, .int 0])), (oS, .inr (6, [.int 0, .int (-1)])), (ar, .inl (tr, 8, .inl g))]) [0, 1, 2, 3] (by decide) rfl
  have hKc := hK.sub (tys' := [(tr, .int)]) [0] rfl
  have hFc := va_free (wc := [(h0, .inr (7, [.ref oB, .ref oP])), (oP, .inr (5, [.ref ar, .ref oB, .ref oS, .int 0, .int 2, .int 0, .int 0, .int 0, .int 0])), (oS, .inr (6, [.int 0, .int (-1)])), (ar, .inl (tr, 8, .inl g))]) hD hS hA [0, 1, 2, 3] rfl
  refine va_callv (va_runV (As := [.int 1]) (rest := []) ⟨hx, hb, hml, hown, hts⟩ (c_f_start l dC dI h0 oB oP oS ar tr g H.size (by first | assumption | omega | decide)) (cwV 1 hts gL_start_X8_start rfl rfl rfl (by decide +kernel) ⟨Nat.le_of_ble_eq_true rfl, Nat.le_of_ble_eq_true rfl⟩) ⟨fun a U g mk q => by obtain ⟨q0, q1, qP, qK, qD⟩ := q; exact ⟨q0, q1, qP, va_K.moved (u := U) (U := U.calling g mk a) (Vm.Alike.refl U.vm) qK, qD⟩, va_recv hKc hPc (ci := 7) (q0 := 0) rfl rfl, fun U hU hW => ⟨rfl, by rw [hU], by rw [hU]; exact hPc, va_K.moved hW.alike hKc, hDc.weaken (fun _ _ _ _ => trivial)⟩⟩ rfl rfl hl.1 rfl (lv_room (Nat.le_of_ble_eq_true rfl)) dL_start_2 ⟨Nat.le_of_ble_eq_true rfl, Nat.le_of_ble_eq_true rfl⟩) hS (fun q _ h => hFc q h) hFc (fun u2 t H1 locs ht hvm hw hB hz1 hk1 hS => ?_)
  obtain ⟨hP1, hK1, hD1⟩ := hB
  rw [ht] at hP1
  have hK1 := va_K.moved hvm.symm hK1
  try dsimp only at hw
  obtain ⟨hP, hD⟩ := va_join (wr := []) (w1 := [(h0, .inr (7, [.ref oB, .ref oP])), (oP, .inr (5, [.ref ar, .ref oB, .ref oS, .int 0, .int 0, .int 0, .int 0, .int 0, .int 0])), (oS, .inr (6, [.int 224, .int (-1)])), (ar, .inl (tr, 8, .inl u2))]) hP hD [0, 1, 2, 3] [] rfl rfl (by decide) (by decide) hk1 hFc hP1 hD1
  have hK := (hK.sub (tys' := []) [] rfl).app hK1
  generalize H1 = H at hP hS ⊢
  have hP : va_P (dC, dI) vwCl [(h0, .inr (7, [.ref oB, .ref oP])), (oP, .inr (5, [.ref ar, .ref oB, .ref oS, .int 0, .int 0, .int 0, .int 0, .int 0, .int 0])), (oS, .inr (6, [.int 224, .int (-1)])), (ar, .inl (tr, 8, .inl u2))] H := hP
  have hD : va_D A [(h0, .inr (7, [.ref oB, .ref oP])), (oP, .inr (5, [.ref ar, .ref oB, .ref oS, .int 0, .int 0, .int 0, .int 0, .int 0, .int 0])), (oS, .inr (6, [.int 224, .int (-1)])), (ar, .inl (tr, 8, .inl u2))] := hD
  have hK : va_K (dC, dI) vwCl [(tr, .int)] s := hK
  refine W.widen (k := 0) (n := 0) (Nat.le_of_ble_eq_true rfl) (Nat.le_of_ble_eq_true rfl) ?_
  obtain ⟨_, _⟩ := hw
  refine lv_goto (tgt := 11) hx hb dL_start_5 (by decide) ?_
  refine lv_iconst (v := 0) hx hb dL_start_11 (by decide) ?_
  have hx3 : u2 (7 : Int32).toNatClampNeg = 1 := by first | assumption | omega
  have hx4 : u2 (6 : Int32).toNatClampNeg = 1024 := by first | assumption | omega
  have hP9 := hP.sub (ws' := [(h0, .inr (7, [.ref oB, .ref oP])), (oP, .inr (5, [.ref ar, .ref oB, .ref oS, .int 0, .int 0, .int 0, .int 0, .int 0, .int 0])), (oS, .inr (6, [.int 224, .int (-1)])), (ar, .inl (tr, 8, .inl u2))]) [0, 1, 2, 3] rfl
  have hD9 := hD.sub (ws' := [(h0, .inr (7, [.ref oB, .ref oP])), (oP, .inr (5, [.ref ar, .ref oB, .ref oS, .int 0, .int 0, .int 0, .int 0, .int 0, .int 0])), (oS, .inr (6, [.int 224, .int (-1)])), (ar, .inl (tr, 8, .inl u2))]) [0, 1, 2, 3] (by decide) rfl
  have hK9 := hK.sub (tys' := [(tr, .int)]) [0] rfl
  exact W.iret (v := 0) hx hb hr (fun t ht hW => ⟨⟨0, (u2), rfl, ⟨rfl, hx3, hx4⟩, by rw [ht]; exact hP9, va_K.moved hW.alike hK9, hD9⟩, hS.F ht⟩) hS.2.2 dL_start_12
set_option maxHeartbeats 4000000 in
set_option maxRecDepth 100000 in
theorem c_L_run4 (l : Launch) (dC : Nat → ClassId) (dI : Nat → Nat → Nat) (h0 : Nat) (oB : Nat) (oP : Nat) (oS : Nat) (ar : Nat) (ve : Int32) (am : Nat) (oM : Nat) (oK : Nat) (oL : Nat) (oD : Nat) (ad : Nat) (ab : Nat) (tm : ClassId) (f : Nat → Int32) (tr : ClassId) (g : Nat → Int32) (z : Int) (ap : Nat) (aw : Nat) (ho : Nat) (to : ClassId) (fo : Nat → Int64) (sz : Nat) (hlt : l.stackTraces = false) (hF0 : f (2 : Int32).toNatClampNeg = 1) (hF1 : f (3 : Int32).toNatClampNeg = 224) (hF2 : g (7 : Int32).toNatClampNeg = 1) (hF3 : (g (6 : Int32).toNatClampNeg).toInt = z) (hH4 : 182 ≤ z) (hH5 : z ≤ 1024) (hH6 : z % 2 = 0) : Met l yL_run wsL_run ({ frames := 10, cells := 4, slots := 24, locals := 194 } : Room) (va_Pc [.ref h0, .int 4, .ref ho] (fun U => U.heap.size = sz ∧ va_P (dC, dI) vwCl [(h0, .inr (7, [.ref oB, .ref oP])), (oP, .inr (5, [.ref ar, .ref oB, .ref oS, .int 0, .int 0, .int 0, .int ve, .int 0, .int 0])), (oB, .inr (0, [.ref am, .ref oM, .ref oS, .ref oK, .ref oL, .ref oD])), (oS, .inr (6, [.int 224, .int (-1)])), (oM, .inr (3, [.ref ad, .ref ab, .int 0])), (am, .inl (tm, 512, .inl f)), (ar, .inl (tr, 8, .inl g)), (oL, .inr (4, [.int 128, .int 0, .ref ap, .int 0, .int 0, .int 0, .int 0])), (oD, .inr (1, [.int 128, .int 0, .ref aw, .int 0, .int 0, .int 0, .int 0, .int 0, .int 0, .int 0])), (oK, .inr (2, [.int 0, .int 0, .int 0])), (ho, .inl (to, 1, .inr (.inl fo)))] U.heap ∧ va_K (dC, dI) vwCl [(tm, .int), (tr, .int), (to, .long)] U ∧ va_D (fun _ => True) [(h0, .inr (7, [.ref oB, .ref oP])), (oP, .inr (5, [.ref ar, .ref oB, .ref oS, .int 0, .int 0, .int 0, .int ve, .int 0, .int 0])), (oB, .inr (0, [.ref am, .ref oM, .ref oS, .ref oK, .ref oL, .ref oD])), (oS, .inr (6, [.int 224, .int (-1)])), (oM, .inr (3, [.ref ad, .ref ab, .int 0])), (am, .inl (tm, 512, .inl f)), (ar, .inl (tr, 8, .inl g)), (oL, .inr (4, [.int 128, .int 0, .ref ap, .int 0, .int 0, .int 0, .int 0])), (oD, .inr (1, [.int 128, .int 0, .ref aw, .int 0, .int 0, .int 0, .int 0, .int 0, .int 0, .int 0])), (oK, .inr (2, [.int 0, .int 0, .int 0])), (ho, .inl (to, 1, .inr (.inl fo)))] ∧ vx_Zq Bundle.tN "UNASSIGNED_STACK" Bundle.steD (va_A [(h0, .inr (7, [.ref oB, .ref oP])), (oP, .inr (5, [.ref ar, .ref oB, .ref oS, .int 0, .int 0, .int 0, .int ve, .int 0, .int 0])), (oB, .inr (0, [.ref am, .ref oM, .ref oS, .ref oK, .ref oL, .ref oD])), (oS, .inr (6, [.int 224, .int (-1)])), (oM, .inr (3, [.ref ad, .ref ab, .int 0])), (am, .inl (tm, 512, .inl f)), (ar, .inl (tr, 8, .inl g)), (oL, .inr (4, [.int 128, .int 0, .ref ap, .int 0, .int 0, .int 0, .int 0])), (oD, .inr (1, [.int 128, .int 0, .ref aw, .int 0, .int 0, .int 0, .int 0, .int 0, .int 0, .int 0])), (oK, .inr (2, [.int 0, .int 0, .int 0])), (ho, .inl (to, 1, .inr (.inl fo)))] sz) U U.heap ∧ vx_Zq Bundle.tN "SUPPRESSED_SENTINEL" Bundle.listD (va_A [(h0, .inr (7, [.ref oB, .ref oP])), (oP, .inr (5, [.ref ar, .ref oB, .ref oS, .int 0, .int 0, .int 0, .int ve, .int 0, .int 0])), (oB, .inr (0, [.ref am, .ref oM, .ref oS, .ref oK, .ref oL, .ref oD])), (oS, .inr (6, [.int 224, .int (-1)])), (oM, .inr (3, [.ref ad, .ref ab, .int 0])), (am, .inl (tm, 512, .inl f)), (ar, .inl (tr, 8, .inl g)), (oL, .inr (4, [.int 128, .int 0, .ref ap, .int 0, .int 0, .int 0, .int 0])), (oD, .inr (1, [.int 128, .int 0, .ref aw, .int 0, .int 0, .int 0, .int 0, .int 0, .int 0, .int 0])), (oK, .inr (2, [.int 0, .int 0, .int 0])), (ho, .inl (to, 1, .inr (.inl fo)))] sz) U U.heap ∧ va_Nw (.declares (Bundle.init0 "java/lang/RuntimeException")) U ∧ va_Nw (.declares (Bundle.init0 "java/lang/Exception")) U ∧ va_Nw (.declares (Bundle.init0 Bundle.tN)) U ∧ va_Nw (.castable "java/lang/UnsupportedOperationException" "java/lang/UnsupportedOperationException") U)) (va_Qi (fun (r : Int32) (u : (Nat → Int32) × (Nat → Int32) × (Nat → Int64)) => (0 = r) ∧ (u.1 (2 : Int32).toNatClampNeg = 1) ∧ (u.1 (3 : Int32).toNatClampNeg = 224) ∧ (u.2.1 (7 : Int32).toNatClampNeg = 1) ∧ ((u.2.1 (6 : Int32).toNatClampNeg).toInt = z - 16)) (fun (u : (Nat → Int32) × (Nat → Int32) × (Nat → Int64)) (t : State) => va_P (dC, dI) vwCl [(h0, .inr (7, [.ref oB, .ref oP])), (oP, .inr (5, [.ref ar, .ref oB, .ref oS, .int 0, .int 0, .int 0, .int 4, .int 0, .int 0])), (oB, .inr (0, [.ref am, .ref oM, .ref oS, .ref oK, .ref oL, .ref oD])), (oS, .inr (6, [.int 224, .int (-1)])), (oM, .inr (3, [.ref ad, .ref ab, .int 0])), (am, .inl (tm, 512, .inl u.1)), (ar, .inl (tr, 8, .inl u.2.1)), (oL, .inr (4, [.int 128, .int 0, .ref ap, .int 0, .int 0, .int 0, .int 0])), (oD, .inr (1, [.int 128, .int 0, .ref aw, .int 0, .int 0, .int 0, .int 0, .int 0, .int 0, .int 0])), (oK, .inr (2, [.int 0, .int 0, .int 0])), (ho, .inl (to, 1, .inr (.inl u.2.2)))] t.heap ∧ va_K (dC, dI) vwCl [(tm, .int), (tr, .int), (to, .long)] t ∧ va_D (va_A [(h0, .inr (7, [.ref oB, .ref oP])), (oP, .inr (5, [.ref ar, .ref oB, .ref oS, .int 0, .int 0, .int 0, .int ve, .int 0, .int 0])), (oB, .inr (0, [.ref am, .ref oM, .ref oS, .ref oK, .ref oL, .ref oD])), (oS, .inr (6, [.int 224, .int (-1)])), (oM, .inr (3, [.ref ad, .ref ab, .int 0])), (am, .inl (tm, 512, .inl f)), (ar, .inl (tr, 8, .inl g)), (oL, .inr (4, [.int 128, .int 0, .ref ap, .int 0, .int 0, .int 0, .int 0])), (oD, .inr (1, [.int 128, .int 0, .ref aw, .int 0, .int 0, .int 0, .int 0, .int 0, .int 0, .int 0])), (oK, .inr (2, [.int 0, .int 0, .int 0])), (ho, .inl (to, 1, .inr (.inl fo)))] sz) [(h0, .inr (7, [.ref oB, .ref oP])), (oP, .inr (5, [.ref ar, .ref oB, .ref oS, .int 0, .int 0, .int 0, .int 4, .int 0, .int 0])), (oB, .inr (0, [.ref am, .ref oM, .ref oS, .ref oK, .ref oL, .ref oD])), (oS, .inr (6, [.int 224, .int (-1)])), (oM, .inr (3, [.ref ad, .ref ab, .int 0])), (am, .inl (tm, 512, .inl u.1)), (ar, .inl (tr, 8, .inl u.2.1)), (oL, .inr (4, [.int 128, .int 0, .ref ap, .int 0, .int 0, .int 0, .int 0])), (oD, .inr (1, [.int 128, .int 0, .ref aw, .int 0, .int 0, .int 0, .int 0, .int 0, .int 0, .int 0])), (oK, .inr (2, [.int 0, .int 0, .int 0])), (ho, .inl (to, 1, .inr (.inl u.2.2)))] ∧ sz + 4 ≤ t.heap.size) (va_A [(h0, .inr (7, [.ref oB, .ref oP])), (oP, .inr (5, [.ref ar, .ref oB, .ref oS, .int 0, .int 0, .int 0, .int ve, .int 0, .int 0])), (oB, .inr (0, [.ref am, .ref oM, .ref oS, .ref oK, .ref oL, .ref oD])), (oS, .inr (6, [.int 224, .int (-1)])), (oM, .inr (3, [.ref ad, .ref ab, .int 0])), (am, .inl (tm, 512, .inl f)), (ar, .inl (tr, 8, .inl g)), (oL, .inr (4, [.int 128, .int 0, .ref ap, .int 0, .int 0, .int 0, .int 0])), (oD, .inr (1, [.int 128, .int 0, .ref aw, .int 0, .int 0, .int 0, .int 0, .int 0, .int 0, .int 0])), (oK, .inr (2, [.int 0, .int 0, .int 0])), (ho, .inl (to, 1, .inr (.inl fo)))] sz)) 4 24 (va_A [(h0, .inr (7, [.ref oB, .ref oP])), (oP, .inr (5, [.ref ar, .ref oB, .ref oS, .int 0, .int 0, .int 0, .int ve, .int 0, .int 0])), (oB, .inr (0, [.ref am, .ref oM, .ref oS, .ref oK, .ref oL, .ref oD])), (oS, .inr (6, [.int 224, .int (-1)])), (oM, .inr (3, [.ref ad, .ref ab, .int 0])), (am, .inl (tm, 512, .inl f)), (ar, .inl (tr, 8, .inl g)), (oL, .inr (4, [.int 128, .int 0, .ref ap, .int 0, .int 0, .int 0, .int 0])), (oD, .inr (1, [.int 128, .int 0, .ref aw, .int 0, .int 0, .int 0, .int 0, .int 0, .int 0, .int 0])), (oK, .inr (2, [.int 0, .int 0, .int 0])), (ho, .inl (to, 1, .inr (.inl fo)))] sz) := by
  refine va_MetW (cc := cL_run) (maxL := 4) (ret := (some .int)) (by decide) rfl ?_
  intro p e s m args below meth c s₁ B hml hv
  obtain ⟨rfl, hsz, hP, hK, hD0, hZU, hZN, hd1, hd2, hd3, hcU⟩ := hv
  have hx := B.exec
  have hb := B.bytes
  have hr := B.returns
  have hts := atoms_spec (ws := wsL_run) B.pre
  have hown : s.vm.findClass RL = some m.cls := findClass_of_methodNamed B.named
  have hlocks := B.notSynchronized
  have htb := vx_table (x := yL_run) (y := yL_run) (bytes := cL_run) (maxL' := 4) (ret' := (some .int)) (hh := [(0, 9, 12, 13), (0, 9, 15, 32)]) B (hts _ List.mem_cons_self)
  have hD := hD0.self (sz := sz)
  generalize hAe : va_A [(h0, .inr (7, [.ref oB, .ref oP])), (oP, .inr (5, [.ref ar, .ref oB, .ref oS, .int 0, .int 0, .int 0, .int ve, .int 0, .int 0])), (oB, .inr (0, [.ref am, .ref oM, .ref oS, .ref oK, .ref oL, .ref oD])), (oS, .inr (6, [.int 224, .int (-1)])), (oM, .inr (3, [.ref ad, .ref ab, .int 0])), (am, .inl (tm, 512, .inl f)), (ar, .inl (tr, 8, .inl g)), (oL, .inr (4, [.int 128, .int 0, .ref ap, .int 0, .int 0, .int 0, .int 0])), (oD, .inr (1, [.int 128, .int 0, .ref aw, .int 0, .int 0, .int 0, .int 0, .int 0, .int 0, .int 0])), (oK, .inr (2, [.int 0, .int 0, .int 0])), (ho, .inl (to, 1, .inr (.inl fo)))] sz = A at hD hZU hZN ⊢
  have hA : ∀ q : Nat, s.heap.size ≤ q → A q := fun q h => by rw [← hAe]; exact Or.inr (by omega)
  have hS0 : ∀ G : Heap, s.heap = G → va_S A s.heap G [] := fun G h => by subst h; exact va_S.rf
  generalize hHe : s.heap = H at hP ⊢
  have hS := hS0 H hHe
  have hP : va_P (dC, dI) vwCl [(h0, .inr (7, [.ref oB, .ref oP])), (oP, .inr (5, [.ref ar, .ref oB, .ref oS, .int 0, .int 0, .int 0, .int ve, .int 0, .int 0])), (oB, .inr (0, [.ref am, .ref oM, .ref oS, .ref oK, .ref oL, .ref oD])), (oS, .inr (6, [.int 224, .int (-1)])), (oM, .inr (3, [.ref ad, .ref ab, .int 0])), (am, .inl (tm, 512, .inl f)), (ar, .inl (tr, 8, .inl g)), (oL, .inr (4, [.int 128, .int 0, .ref ap, .int 0, .int 0, .int 0, .int 0])), (oD, .inr (1, [.int 128, .int 0, .ref aw, .int 0, .int 0, .int 0, .int 0, .int 0, .int 0, .int 0])), (oK, .inr (2, [.int 0, .int 0, .int 0])), (ho, .inl (to, 1, .inr (.inl fo)))] H := hP
  have hD : va_D A [(h0, .inr (7, [.ref oB, .ref oP])), (oP, .inr (5, [.ref ar, .ref oB, .ref oS, .int 0, .int 0, .int 0, .int ve, .int 0, .int 0])), (oB, .inr (0, [.ref am, .ref oM, .ref oS, .ref oK, .ref oL, .ref oD])), (oS, .inr (6, [.int 224, .int (-1)])), (oM, .inr (3, [.ref ad, .ref ab, .int 0])), (am, .inl (tm, 512, .inl f)), (ar, .inl (tr, 8, .inl g)), (oL, .inr (4, [.int 128, .int 0, .ref ap, .int 0, .int 0, .int 0, .int 0])), (oD, .inr (1, [.int 128, .int 0, .ref aw, .int 0, .int 0, .int 0, .int 0, .int 0, .int 0, .int 0])), (oK, .inr (2, [.int 0, .int 0, .int 0])), (ho, .inl (to, 1, .inr (.inl fo)))] := hD
  have hK : va_K (dC, dI) vwCl [(tm, .int), (tr, .int), (to, .long)] s := hK
  have hl := lv_entry ([.ref h0, .int 4, .ref ho]) (n := 4) (Nat.le_of_ble_eq_true rfl)
  rw [lg_entry_eq]
  generalize (lg_sl ([.ref h0, .int 4, .ref ho]) ++ List.replicate (4 - (lg_sl ([.ref h0, .int 4, .ref ho])).length) Slot.unset).toArray = ls at hl ⊢
  have hl : lv_has ls 4 [(0, .ref h0), (1, .int 4), (2, .ref ho)] := hl
  refine lv_aload_n hx hb dL_run_0 rfl (lv_at hl 2 rfl) ?_
  refine lv_iconst (v := 0) hx hb dL_run_1 (by decide) ?_
  refine lv_aload_n hx hb dL_run_2 rfl (lv_at hl 0 rfl) ?_
  refine lv_iload_n hx hb dL_run_3 rfl (lv_at hl 1 rfl) ?_
  have hPc := hP.sub (ws' := [(h0, .inr (7, [.ref oB, .ref oP])), (oP, .inr (5, [.ref ar, .ref oB, .ref oS, .int 0, .int 0, .int 0, .int ve, .int 0, .int 0])), (oB, .inr (0, [.ref am, .ref oM, .ref oS, .ref oK, .ref oL, .ref oD])), (oS, .inr (6, [.int 224, .int (-1)])), (oM, .inr (3, [.ref ad, .ref ab, .int 0])), (am, .inl (tm, 512, .inl f)), (ar, .inl (tr, 8, .inl g)), (oL, .inr (4, [.int 128, .int 0, .ref ap, .int 0, .int 0, .int 0, .int 0])), (oD, .inr (1, [.int 128, .int 0, .ref aw, .int 0, .int 0, .int 0, .int 0, .int 0, .int 0, .int 0])), (oK, .inr (2, [.int 0, .int 0, .int 0]))]) [0, 1, 2, 3, 4, 5, 6, 7, 8, 9] rfl
  have hDc := hD.sub (ws' := [(h0, .inr (7, [.ref oB, .ref oP])), (oP, .inr (5, [.ref ar, .ref oB, .ref oS, .int 0, .int 0, .int 0, .int ve, .int 0, .int 0])), (oB, .inr (0, [.ref am, .ref oM, .ref oS, .ref oK, .ref oL, .ref oD])), (oS, .inr (6, [.int 224, .int (-1)])), (oM, .inr (3, [.ref ad, .ref ab, .int 0])), (am, .inl (tm, 512, .inl f)), (ar, .inl (tr, 8, .inl g)), (oL, .inr (4, [.int 128, .int 0, .ref ap, .int 0, .int 0, .int 0, .int 0])), (oD, .inr (1, [.int 128, .int 0, .ref aw, .int 0, .int 0, .int 0, .int 0, .int 0, .int 0, .int 0])), (oK, .inr (2, [.int 0, .int 0, .int 0]))]) [0, 1, 2, 3, 4, 5, 6, 7, 8, 9] (by decide) rfl
  have hKc := hK.sub (tys' := [(tm, .int), (tr, .int)]) [0, 1] rfl
  have hFc := va_free (wc := [(h0, .inr (7, [.ref oB, .ref oP])), (oP, .inr (5, [.ref ar, .ref oB, .ref oS, .int 0, .int 0, .int 0, .int ve, .int 0, .int 0])), (oB, .inr (0, [.ref am, .ref oM, .ref oS, .ref oK, .ref oL, .ref oD])), (oS, .inr (6, [.int 224, .int (-1)])), (oM, .inr (3, [.ref ad, .ref ab, .int 0])), (am, .inl (tm, 512, .inl f)), (ar, .inl (tr, 8, .inl g)), (oL, .inr (4, [.int 128, .int 0, .ref ap, .int 0, .int 0, .int 0, .int 0])), (oD, .inr (1, [.int 128, .int 0, .ref aw, .int 0, .int 0, .int 0, .int 0, .int 0, .int 0, .int 0])), (oK, .inr (2, [.int 0, .int 0, .int 0]))]) hD hS hA [0, 1, 2, 3, 4, 5, 6, 7, 8, 9] rfl
  have hSz := hS.1
  refine va_calli (va_runV (As := [.int 4]) (rest := [.int 0, .ref ho]) ⟨hx, hb, hml, hown, hts⟩ (c_run4 l dC dI h0 oB oP oS ar ve am oM oK oL oD ad ab tm f tr g z ap aw H.size hlt (by first | assumption | omega | decide) (by first | assumption | omega | decide) (by first | assumption | omega | decide) (by first | assumption | omega | decide) (by first | assumption | omega | decide) (by first | assumption | omega | decide) (by first | assumption | omega | decide)) (cwV 1 hts gL_run_X8_run rfl rfl rfl (by decide +kernel) ⟨Nat.le_of_ble_eq_true rfl, Nat.le_of_ble_eq_true rfl⟩) ⟨fun a U g mk q => by obtain ⟨q0, q1, qP, qK, qD, e0, e1, e2, e3, e4, e5⟩ := q; exact ⟨q0, q1, qP, va_K.moved (u := U) (U := U.calling g mk a) (Vm.Alike.refl U.vm) qK, qD, vx_Zq.moved (u := U) (U := U.calling g mk a) (Vm.Alike.refl U.vm) e0, vx_Zq.moved (u := U) (U := U.calling g mk a) (Vm.Alike.refl U.vm) e1, va_Nw.same (U := U.calling g mk a) rfl rfl e2, va_Nw.same (U := U.calling g mk a) rfl rfl e3, va_Nw.same (U := U.calling g mk a) rfl rfl e4, va_Nw.same (U := U.calling g mk a) rfl rfl e5⟩, va_recv hKc hPc (ci := 7) (q0 := 0) rfl rfl, fun U hU hW => ⟨rfl, by rw [hU], by rw [hU]; exact hPc, va_K.moved hW.alike hKc, hDc.weaken (fun _ _ _ _ => trivial), by rw [hU]; exact vx_Zq.moved hW.alike (vx_Zq.narrow (vx_Zq.kept hZU hS.2.1) hFc), by rw [hU]; exact vx_Zq.moved hW.alike (vx_Zq.narrow (vx_Zq.kept hZN hS.2.1) hFc), va_Nw.warmD hW hd1, va_Nw.warmD hW hd2, va_Nw.warmD hW hd3, va_Nw.warmC hW hcU⟩⟩ rfl rfl hl.1 rfl (lv_room (Nat.le_of_ble_eq_true rfl)) dL_run_4 ⟨Nat.le_of_ble_eq_true rfl, Nat.le_of_ble_eq_true rfl⟩) hS (fun q _ h => hFc q h) hFc (fun r1 u2 t H1 locs ht hvm hw hB hz1 hk1 hS => ?_)
  obtain ⟨hP1, hK1, hD1, hg1⟩ := hB
  rw [ht] at hP1 hg1
  have hK1 := va_K.moved hvm.symm hK1
  try dsimp only at hw
  obtain ⟨hP, hD⟩ := va_join (wr := [(ho, .inl (to, 1, .inr (.inl fo)))]) (w1 := [(h0, .inr (7, [.ref oB, .ref oP])), (oP, .inr (5, [.ref ar, .ref oB, .ref oS, .int 0, .int 0, .int 0, .int 4, .int 0, .int 0])), (oB, .inr (0, [.ref am, .ref oM, .ref oS, .ref oK, .ref oL, .ref oD])), (oS, .inr (6, [.int 224, .int (-1)])), (oM, .inr (3, [.ref ad, .ref ab, .int 0])), (am, .inl (tm, 512, .inl u2.1)), (ar, .inl (tr, 8, .inl u2.2)), (oL, .inr (4, [.int 128, .int 0, .ref ap, .int 0, .int 0, .int 0, .int 0])), (oD, .inr (1, [.int 128, .int 0, .ref aw, .int 0, .int 0, .int 0, .int 0, .int 0, .int 0, .int 0])), (oK, .inr (2, [.int 0, .int 0, .int 0]))]) hP hD [0, 1, 2, 3, 4, 5, 6, 7, 8, 9] [10] rfl rfl (by decide) (by decide) hk1 hFc hP1 hD1
  have hK := (hK.sub (tys' := [(to, .long)]) [2] rfl).app hK1
  have hgr : sz + 4 ≤ H1.size := by omega
  generalize H1 = H at hP hS hgr ⊢
  have hP : va_P (dC, dI) vwCl [(ho, .inl (to, 1, .inr (.inl fo))), (h0, .inr (7, [.ref oB, .ref oP])), (oP, .inr (5, [.ref ar, .ref oB, .ref oS, .int 0, .int 0, .int 0, .int 4, .int 0, .int 0])), (oB, .inr (0, [.ref am, .ref oM, .ref oS, .ref oK, .ref oL, .ref oD])), (oS, .inr (6, [.int 224, .int (-1)])), (oM, .inr (3, [.ref ad, .ref ab, .int 0])), (am, .inl (tm, 512, .inl u2.1)), (ar, .inl (tr, 8, .inl u2.2)), (oL, .inr (4, [.int 128, .int 0, .ref ap, .int 0, .int 0, .int 0, .int 0])), (oD, .inr (1, [.int 128, .int 0, .ref aw, .int 0, .int 0, .int 0, .int 0, .int 0, .int 0, .int 0])), (oK, .inr (2, [.int 0, .int 0, .int 0]))] H := hP
  have hD : va_D A [(ho, .inl (to, 1, .inr (.inl fo))), (h0, .inr (7, [.ref oB, .ref oP])), (oP, .inr (5, [.ref ar, .ref oB, .ref oS, .int 0, .int 0, .int 0, .int 4, .int 0, .int 0])), (oB, .inr (0, [.ref am, .ref oM, .ref oS, .ref oK, .ref oL, .ref oD])), (oS, .inr (6, [.int 224, .int (-1)])), (oM, .inr (3, [.ref ad, .ref ab, .int 0])), (am, .inl (tm, 512, .inl u2.1)), (ar, .inl (tr, 8, .inl u2.2)), (oL, .inr (4, [.int 128, .int 0, .ref ap, .int 0, .int 0, .int 0, .int 0])), (oD, .inr (1, [.int 128, .int 0, .ref aw, .int 0, .int 0, .int 0, .int 0, .int 0, .int 0, .int 0])), (oK, .inr (2, [.int 0, .int 0, .int 0]))] := hD
  have hK : va_K (dC, dI) vwCl [(to, .long), (tm, .int), (tr, .int)] s := hK
  refine W.widen (k := 4) (n := 24) (Nat.le_of_ble_eq_true rfl) (Nat.le_of_ble_eq_true rfl) ?_
  obtain ⟨rfl, _, _, _, _⟩ := hw
  refine lv_i2l hx hb dL_run_7 rfl ?_
  have hSr := (⟨Nat.le_refl _, fun _ _ _ => rfl, hS.2.2⟩ : va_S A H H _)
  refine va_last (D := (dC, dI)) hx hb hK hP hD hSr 0 0 rfl rfl (vp_in_iff.mpr (by decide)) dL_run_8 (fun H2 locs hP hD hS2 => ?_)
  have hgr : sz + 4 ≤ H2.size := Nat.le_trans hgr hS2.1
  have hS : va_S A s.heap H2 locs := ⟨Nat.le_trans hS.1 hS2.1, fun q h1 h2 => (hS2.2.1 q (Nat.lt_of_lt_of_le h1 hS.1) h2).trans (hS.2.1 q h1 h2), hS2.2.2⟩
  obtain ⟨H, rfl⟩ : ∃ z, z = H2 := ⟨_, rfl⟩
  have hP : va_P (dC, dI) vwCl [(ho, .inl (to, 1, .inr (.inl (vp_updL fo (0 : Int32).toNatClampNeg ((4 : Int32).toInt64))))), (h0, .inr (7, [.ref oB, .ref oP])), (oP, .inr (5, [.ref ar, .ref oB, .ref oS, .int 0, .int 0, .int 0, .int 4, .int 0, .int 0])), (oB, .inr (0, [.ref am, .ref oM, .ref oS, .ref oK, .ref oL, .ref oD])), (oS, .inr (6, [.int 224, .int (-1)])), (oM, .inr (3, [.ref ad, .ref ab, .int 0])), (am, .inl (tm, 512, .inl u2.1)), (ar, .inl (tr, 8, .inl u2.2)), (oL, .inr (4, [.int 128, .int 0, .ref ap, .int 0, .int 0, .int 0, .int 0])), (oD, .inr (1, [.int 128, .int 0, .ref aw, .int 0, .int 0, .int 0, .int 0, .int 0, .int 0, .int 0])), (oK, .inr (2, [.int 0, .int 0, .int 0]))] H := hP
  have hD : va_D A [(ho, .inl (to, 1, .inr (.inl (vp_updL fo (0 : Int32).toNatClampNeg ((4 : Int32).toInt64))))), (h0, .inr (7, [.ref oB, .ref oP])), (oP, .inr (5, [.ref ar, .ref oB, .ref oS, .int 0, .int 0, .int 0, .int 4, .int 0, .int 0])), (oB, .inr (0, [.ref am, .ref oM, .ref oS, .ref oK, .ref oL, .ref oD])), (oS, .inr (6, [.int 224, .int (-1)])), (oM, .inr (3, [.ref ad, .ref ab, .int 0])), (am, .inl (tm, 512, .inl u2.1)), (ar, .inl (tr, 8, .inl u2.2)), (oL, .inr (4, [.int 128, .int 0, .ref ap, .int 0, .int 0, .int 0, .int 0])), (oD, .inr (1, [.int 128, .int 0, .ref aw, .int 0, .int 0, .int 0, .int 0, .int 0, .int 0, .int 0])), (oK, .inr (2, [.int 0, .int 0, .int 0]))] := hD
  refine lv_goto (tgt := 18) hx hb dL_run_9 (by decide) ?_
  refine lv_iconst (v := 0) hx hb dL_run_18 (by decide) ?_
  have hx3 : u2.1 (2 : Int32).toNatClampNeg = 1 := by first | assumption | omega
  have hx4 : u2.1 (3 : Int32).toNatClampNeg = 224 := by first | assumption | omega
  have hx5 : u2.2 (7 : Int32).toNatClampNeg = 1 := by first | assumption | omega
  have hx6 : (u2.2 (6 : Int32).toNatClampNeg).toInt = z - 16 := by first | assumption | omega
  have hP9 := hP.sub (ws' := [(h0, .inr (7, [.ref oB, .ref oP])), (oP, .inr (5, [.ref ar, .ref oB, .ref oS, .int 0, .int 0, .int 0, .int 4, .int 0, .int 0])), (oB, .inr (0, [.ref am, .ref oM, .ref oS, .ref oK, .ref oL, .ref oD])), (oS, .inr (6, [.int 224, .int (-1)])), (oM, .inr (3, [.ref ad, .ref ab, .int 0])), (am, .inl (tm, 512, .inl u2.1)), (ar, .inl (tr, 8, .inl u2.2)), (oL, .inr (4, [.int 128, .int 0, .ref ap, .int 0, .int 0, .int 0, .int 0])), (oD, .inr (1, [.int 128, .int 0, .ref aw, .int 0, .int 0, .int 0, .int 0, .int 0, .int 0, .int 0])), (oK, .inr (2, [.int 0, .int 0, .int 0])), (ho, .inl (to, 1, .inr (.inl (vp_updL fo (0 : Int32).toNatClampNeg ((4 : Int32).toInt64)))))]) [1, 2, 3, 4, 5, 6, 7, 8, 9, 10, 0] rfl
  have hD9 := hD.sub (ws' := [(h0, .inr (7, [.ref oB, .ref oP])), (oP, .inr (5, [.ref ar, .ref oB, .ref oS, .int 0, .int 0, .int 0, .int 4, .int 0, .int 0])), (oB, .inr (0, [.ref am, .ref oM, .ref oS, .ref oK, .ref oL, .ref oD])), (oS, .inr (6, [.int 224, .int (-1)])), (oM, .inr (3, [.ref ad, .ref ab, .int 0])), (am, .inl (tm, 512, .inl u2.1)), (ar, .inl (tr, 8, .inl u2.2)), (oL, .inr (4, [.int 128, .int 0, .ref ap, .int 0, .int 0, .int 0, .int 0])), (oD, .inr (1, [.int 128, .int 0, .ref aw, .int 0, .int 0, .int 0, .int 0, .int 0, .int 0, .int 0])), (oK, .inr (2, [.int 0, .int 0, .int 0])), (ho, .inl (to, 1, .inr (.inl (vp_updL fo (0 : Int32).toNatClampNeg ((4 : Int32).toInt64)))))]) [1, 2, 3, 4, 5, 6, 7, 8, 9, 10, 0] (by decide) rfl
  have hK9 := hK.sub (tys' := [(tm, .int), (tr, .int), (to, .long)]) [1, 2, 0] rfl
  exact W.iret (v := 0) hx hb hr (fun t ht hW => ⟨⟨0, (u2.1, u2.2, vp_updL fo (0 : Int32).toNatClampNeg ((4 : Int32).toInt64)), rfl, ⟨rfl, hx3, hx4, hx5, hx6⟩, by rw [ht]; exact hP9, va_K.moved hW.alike hK9, hD9, by rw [ht]; omega⟩, hS.F ht⟩) hS.2.2 dL_run_19
