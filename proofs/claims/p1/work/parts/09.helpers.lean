set_option maxHeartbeats 4000000 in
set_option maxRecDepth 100000 in
theorem c_L_deposit (l : Launch) (dC : Nat → ClassId) (dI : Nat → Nat → Nat) (h0 : Nat) (oB : Nat) (oP : Nat) (am : Nat) (oM : Nat) (oS : Nat) (oK : Nat) (oL : Nat) (oD : Nat) (tm : ClassId) (f : Nat → Int32) (p0 : Int32) (p1 : Int32) (sz : Nat) (hlt : l.stackTraces = false) : vx_Met l yL_deposit wsL_deposit ({ frames := 7, cells := 1, slots := 6, locals := 103 } : Room) (va_Pc [.ref h0, .int p0, .int p1] (fun U => U.heap.size = sz ∧ va_P (dC, dI) vwCl [(h0, .inr (7, [.ref oB, .ref oP])), (oB, .inr (0, [.ref am, .ref oM, .ref oS, .ref oK, .ref oL, .ref oD])), (am, .inl (tm, 512, .inl f))] U.heap ∧ va_K (dC, dI) vwCl [(tm, .int)] U ∧ va_D (fun _ => True) [(h0, .inr (7, [.ref oB, .ref oP])), (oB, .inr (0, [.ref am, .ref oM, .ref oS, .ref oK, .ref oL, .ref oD])), (am, .inl (tm, 512, .inl f))] ∧ vx_Zq Bundle.tN "UNASSIGNED_STACK" Bundle.steD (va_A [(h0, .inr (7, [.ref oB, .ref oP])), (oB, .inr (0, [.ref am, .ref oM, .ref oS, .ref oK, .ref oL, .ref oD])), (am, .inl (tm, 512, .inl f))] sz) U U.heap ∧ vx_Zq Bundle.tN "SUPPRESSED_SENTINEL" Bundle.listD (va_A [(h0, .inr (7, [.ref oB, .ref oP])), (oB, .inr (0, [.ref am, .ref oM, .ref oS, .ref oK, .ref oL, .ref oD])), (am, .inl (tm, 512, .inl f))] sz) U U.heap ∧ va_Nw (.declares (Bundle.init0 "java/lang/RuntimeException")) U ∧ va_Nw (.declares (Bundle.init0 "java/lang/Exception")) U ∧ va_Nw (.declares (Bundle.init0 Bundle.tN)) U ∧ va_Nw (.castable "java/lang/IllegalArgumentException" "java/lang/IllegalArgumentException") U)) (va_Qi (fun (r : Int32) (u : Unit) => (r = 0 ∧ ((0 ≤ p0.toInt ∧ p0.toInt < 1024 ∧ p0.toInt % 2 = 0) ∧ (0 ≤ p1.toInt ∧ p1.toInt ≤ 65535))) ∨ (r = 1 ∧ ¬ ((0 ≤ p0.toInt ∧ p0.toInt < 1024 ∧ p0.toInt % 2 = 0) ∧ (0 ≤ p1.toInt ∧ p1.toInt ≤ 65535)))) (fun (u : Unit) (t : State) => va_P (dC, dI) vwCl [] t.heap ∧ va_K (dC, dI) vwCl [] t ∧ va_D (va_A [(h0, .inr (7, [.ref oB, .ref oP])), (oB, .inr (0, [.ref am, .ref oM, .ref oS, .ref oK, .ref oL, .ref oD])), (am, .inl (tm, 512, .inl f))] sz) []) (va_A [(h0, .inr (7, [.ref oB, .ref oP])), (oB, .inr (0, [.ref am, .ref oM, .ref oS, .ref oK, .ref oL, .ref oD])), (am, .inl (tm, 512, .inl f))] sz)) (vx_X (fun _ : Unit => True) (fun (E : String) (_ : Unit) (_ : State) => False) (va_A [(h0, .inr (7, [.ref oB, .ref oP])), (oB, .inr (0, [.ref am, .ref oM, .ref oS, .ref oK, .ref oL, .ref oD])), (am, .inl (tm, 512, .inl f))] sz)) 1 6 (va_A [(h0, .inr (7, [.ref oB, .ref oP])), (oB, .inr (0, [.ref am, .ref oM, .ref oS, .ref oK, .ref oL, .ref oD])), (am, .inl (tm, 512, .inl f))] sz) := by
  refine vx_ofWH (cc := cL_deposit) (maxL := 4) (ret := (some .int)) (by decide) rfl ?_
  intro p e s m args below meth c s₁ B hml hv
  obtain ⟨rfl, hsz, hP, hK, hD0, hZU, hZN, hd1, hd2, hd3, hcI⟩ := hv
  have hx := B.exec
  have hb := B.bytes
  have hr := B.returns
  have hts := atoms_spec (ws := wsL_deposit) B.pre
  have hown : s.vm.findClass RL = some m.cls := findClass_of_methodNamed B.named
  have hlocks := B.notSynchronized
  have htb := vx_table (x := yL_deposit) (y := yL_deposit) (bytes := cL_deposit) (maxL' := 4) (ret' := (some .int)) (hh := [(0, 6, 9, 13)]) B (hts _ List.mem_cons_self)
  subst hsz
  have hD := hD0.self (sz := s.heap.size)
  generalize hAe : va_A [(h0, .inr (7, [.ref oB, .ref oP])), (oB, .inr (0, [.ref am, .ref oM, .ref oS, .ref oK, .ref oL, .ref oD])), (am, .inl (tm, 512, .inl f))] s.heap.size = A at hD hZU hZN ⊢
  have hA : ∀ q : Nat, s.heap.size ≤ q → A q := fun q h => by rw [← hAe]; exact Or.inr h
  have hS0 : ∀ G : Heap, s.heap = G → va_S A s.heap G [] := fun G h => by subst h; exact va_S.rf
  generalize hHe : s.heap = H at hP ⊢
  have hS := hS0 H hHe
  have hP : va_P (dC, dI) vwCl [(h0, .inr (7, [.ref oB, .ref oP])), (oB, .inr (0, [.ref am, .ref oM, .ref oS, .ref oK, .ref oL, .ref oD])), (am, .inl (tm, 512, .inl f))] H := hP
  have hD : va_D A [(h0, .inr (7, [.ref oB, .ref oP])), (oB, .inr (0, [.ref am, .ref oM, .ref oS, .ref oK, .ref oL, .ref oD])), (am, .inl (tm, 512, .inl f))] := hD
  have hK : va_K (dC, dI) vwCl [(tm, .int)] s := hK
  have hl := lv_entry ([.ref h0, .int p0, .int p1]) (n := 4) (Nat.le_of_ble_eq_true rfl)
  rw [lg_entry_eq]
  generalize (lg_sl ([.ref h0, .int p0, .int p1]) ++ List.replicate (4 - (lg_sl ([.ref h0, .int p0, .int p1])).length) Slot.unset).toArray = ls at hl ⊢
  have hl : lv_has ls 4 [(0, .ref h0), (1, .int p0), (2, .int p1)] := hl
  refine lv_aload_n hx hb dL_deposit_0 rfl (lv_at hl 0 rfl) ?_
  refine lv_iload_n hx hb dL_deposit_1 rfl (lv_at hl 1 rfl) ?_
  refine lv_iload_n hx hb dL_deposit_2 rfl (lv_at hl 2 rfl) ?_
  have hPc := hP.sub (ws' := [(h0, .inr (7, [.ref oB, .ref oP])), (oB, .inr (0, [.ref am, .ref oM, .ref oS, .ref oK, .ref oL, .ref oD])), (am, .inl (tm, 512, .inl f))]) [0, 1, 2] rfl
  have hDc := hD.sub (ws' := [(h0, .inr (7, [.ref oB, .ref oP])), (oB, .inr (0, [.ref am, .ref oM, .ref oS, .ref oK, .ref oL, .ref oD])), (am, .inl (tm, 512, .inl f))]) [0, 1, 2] (by decide) rfl
  have hKc := hK.sub (tys' := [(tm, .int)]) [0] rfl
  have hFc := va_free (wc := [(h0, .inr (7, [.ref oB, .ref oP])), (oB, .inr (0, [.ref am, .ref oM, .ref oS, .ref oK, .ref oL, .ref oD])), (am, .inl (tm, 512, .inl f))]) hD hS hA [0, 1, 2] rfl
  refine vx_callv (vx_runV (As := [.int p0, .int p1]) (rest := []) ⟨hx, hb, hml, hown, hts⟩ (c_deposit l dC dI h0 oB oP am oM oS oK oL oD tm f p0 p1 H.size hlt) (cwV 2 hts gL_deposit_X8_deposit rfl rfl rfl (by decide +kernel) ⟨Nat.le_of_ble_eq_true rfl, Nat.le_of_ble_eq_true rfl⟩) ⟨fun a U g mk q => by obtain ⟨q0, q1, qP, qK, qD, e0, e1, e2, e3, e4, e5⟩ := q; exact ⟨q0, q1, qP, va_K.moved (u := U) (U := U.calling g mk a) (Vm.Alike.refl U.vm) qK, qD, vx_Zq.moved (u := U) (U := U.calling g mk a) (Vm.Alike.refl U.vm) e0, vx_Zq.moved (u := U) (U := U.calling g mk a) (Vm.Alike.refl U.vm) e1, va_Nw.same (U := U.calling g mk a) rfl rfl e2, va_Nw.same (U := U.calling g mk a) rfl rfl e3, va_Nw.same (U := U.calling g mk a) rfl rfl e4, va_Nw.same (U := U.calling g mk a) rfl rfl e5⟩, va_recv hKc hPc (ci := 7) (q0 := 0) rfl rfl, fun U hU hW => ⟨rfl, by rw [hU], by rw [hU]; exact hPc, va_K.moved hW.alike hKc, hDc.weaken (fun _ _ _ _ => trivial), by rw [hU]; exact vx_Zq.moved hW.alike (vx_Zq.narrow (vx_Zq.kept hZU hS.2.1) hFc), by rw [hU]; exact vx_Zq.moved hW.alike (vx_Zq.narrow (vx_Zq.kept hZN hS.2.1) hFc), va_Nw.warmD hW hd1, va_Nw.warmD hW hd2, va_Nw.warmD hW hd3, va_Nw.warmC hW hcI⟩⟩ rfl rfl hl.1 rfl (lv_room (Nat.le_of_ble_eq_true rfl)) dL_deposit_3 ⟨Nat.le_of_ble_eq_true rfl, Nat.le_of_ble_eq_true rfl⟩) hS (fun q _ h => hFc q h) hFc (fun q _ h => hFc q h) (fun E9 ce9 q9 u t H1 locs ht hvm hpx hBX hz1 hk1 hS hce hcv hcl => ?_) (fun u2 t H1 locs ht hvm hw hB hz1 hk1 hS => ?_)
  · skip
    try dsimp only at hBX
    obtain ⟨hP, hD⟩ := va_join (wr := []) (w1 := []) hP hD [0, 1, 2] [] rfl rfl (by decide) (by decide) hk1 hFc (fun k q h => by simp at h) ⟨fun i j p q h => by simp at h, fun k q h => by simp at h⟩
    have hK := hK.sub (tys' := []) [] rfl
    rcases hBX with ⟨rfl, _⟩
    · refine vx_catch (own := RL) (name := "java/lang/IllegalArgumentException") hown [] ⟨0, 6, 9, 13⟩ [] (by rw [htb]; rfl) (fun z hz => nomatch hz) (by decide) (by decide) (hts (.classLink RL 13 "java/lang/IllegalArgumentException") (by decide +kernel)) (va_Nw.use rfl hcI) hce hcv hcl ?_
      generalize H1 = H at hP hS ⊢
      have hP : va_P (dC, dI) vwCl [] H := hP
      have hD : va_D A [] := hD
      have hK : va_K (dC, dI) vwCl [] s := hK
      refine W.widen (k := 1) (n := 6) (Nat.le_of_ble_eq_true rfl) (Nat.le_of_ble_eq_true rfl) ?_
      refine lv_astore_n (lv' := [(3, .ref q9), (0, .ref h0), (1, .int p0), (2, .int p1)]) hx hb dL_deposit_9 rfl hl (by decide) rfl (fun ls hl => ?_)
      refine lv_iconst (v := 1) hx hb dL_deposit_10 (by decide) ?_
      have hP9 := hP.sub (ws' := []) [] rfl
      have hD9 := hD.sub (ws' := []) [] (by decide) rfl
      have hK9 := hK.sub (tys' := []) [] rfl
      refine vx_ret ?_
      exact W.iret (v := 1) hx hb hr (fun t ht hW => ⟨⟨1, (), rfl, (by first | (exact Or.inl ⟨rfl, by omega⟩) | (exact Or.inr ⟨rfl, by omega⟩)), by rw [ht]; exact hP9, va_K.moved hW.alike hK9, hD9⟩, hS.F ht⟩) hS.2.2 dL_deposit_11
  · skip
    obtain ⟨hP1, hK1, hD1⟩ := hB
    rw [ht] at hP1
    have hK1 := va_K.moved hvm.symm hK1
    try dsimp only at hw
    obtain ⟨hP, hD⟩ := va_join (wr := []) (w1 := []) hP hD [0, 1, 2] [] rfl rfl (by decide) (by decide) hk1 hFc hP1 hD1
    have hK := (hK.sub (tys' := []) [] rfl).app hK1
    generalize H1 = H at hP hS ⊢
    have hP : va_P (dC, dI) vwCl [] H := hP
    have hD : va_D A [] := hD
    have hK : va_K (dC, dI) vwCl [] s := hK
    refine W.widen (k := 1) (n := 6) (Nat.le_of_ble_eq_true rfl) (Nat.le_of_ble_eq_true rfl) ?_
    refine lv_goto (tgt := 12) hx hb dL_deposit_6 (by decide) ?_
    refine lv_iconst (v := 0) hx hb dL_deposit_12 (by decide) ?_
    have hP9 := hP.sub (ws' := []) [] rfl
    have hD9 := hD.sub (ws' := []) [] (by decide) rfl
    have hK9 := hK.sub (tys' := []) [] rfl
    refine vx_ret ?_
    exact W.iret (v := 0) hx hb hr (fun t ht hW => ⟨⟨0, (), rfl, (by first | (exact Or.inl ⟨rfl, by omega⟩) | (exact Or.inr ⟨rfl, by omega⟩)), by rw [ht]; exact hP9, va_K.moved hW.alike hK9, hD9⟩, hS.F ht⟩) hS.2.2 dL_deposit_13
set_option maxHeartbeats 4000000 in
set_option maxRecDepth 100000 in
theorem c_L_examine (l : Launch) (dC : Nat → ClassId) (dI : Nat → Nat → Nat) (h0 : Nat) (oB : Nat) (oP : Nat) (am : Nat) (oM : Nat) (oS : Nat) (oK : Nat) (oL : Nat) (oD : Nat) (tm : ClassId) (p0 : Int32) (ho : Nat) (to : ClassId) (fo : Nat → Int64) (sz : Nat) (hlt : l.stackTraces = false) : vx_Met l yL_examine wsL_examine ({ frames := 7, cells := 1, slots := 6, locals := 102 } : Room) (va_Pc [.ref h0, .int p0, .ref ho] (fun U => U.heap.size = sz ∧ va_P (dC, dI) vwCl [(h0, .inr (7, [.ref oB, .ref oP])), (oB, .inr (0, [.ref am, .ref oM, .ref oS, .ref oK, .ref oL, .ref oD])), (am, .inl (tm, 512, .inl (fun _ => 0))), (ho, .inl (to, 1, .inr (.inl fo)))] U.heap ∧ va_K (dC, dI) vwCl [(tm, .int), (to, .long)] U ∧ va_D (fun _ => True) [(h0, .inr (7, [.ref oB, .ref oP])), (oB, .inr (0, [.ref am, .ref oM, .ref oS, .ref oK, .ref oL, .ref oD])), (am, .inl (tm, 512, .inl (fun _ => 0))), (ho, .inl (to, 1, .inr (.inl fo)))] ∧ vx_Zq Bundle.tN "UNASSIGNED_STACK" Bundle.steD (va_A [(h0, .inr (7, [.ref oB, .ref oP])), (oB, .inr (0, [.ref am, .ref oM, .ref oS, .ref oK, .ref oL, .ref oD])), (am, .inl (tm, 512, .inl (fun _ => 0))), (ho, .inl (to, 1, .inr (.inl fo)))] sz) U U.heap ∧ vx_Zq Bundle.tN "SUPPRESSED_SENTINEL" Bundle.listD (va_A [(h0, .inr (7, [.ref oB, .ref oP])), (oB, .inr (0, [.ref am, .ref oM, .ref oS, .ref oK, .ref oL, .ref oD])), (am, .inl (tm, 512, .inl (fun _ => 0))), (ho, .inl (to, 1, .inr (.inl fo)))] sz) U U.heap ∧ va_Nw (.declares (Bundle.init0 "java/lang/RuntimeException")) U ∧ va_Nw (.declares (Bundle.init0 "java/lang/Exception")) U ∧ va_Nw (.declares (Bundle.init0 Bundle.tN)) U ∧ va_Nw (.castable "java/lang/IllegalArgumentException" "java/lang/IllegalArgumentException") U)) (va_Qi (fun (r : Int32) (u : (Nat → Int64)) => (r = 0 ∧ (0 ≤ p0.toInt ∧ p0.toInt < 1024 ∧ p0.toInt % 2 = 0) ∧ u (0 : Int32).toNatClampNeg = 0) ∨ (r = 1 ∧ ¬ (0 ≤ p0.toInt ∧ p0.toInt < 1024 ∧ p0.toInt % 2 = 0))) (fun (u : (Nat → Int64)) (t : State) => va_P (dC, dI) vwCl [(ho, .inl (to, 1, .inr (.inl u)))] t.heap ∧ va_K (dC, dI) vwCl [(to, .long)] t ∧ va_D (va_A [(h0, .inr (7, [.ref oB, .ref oP])), (oB, .inr (0, [.ref am, .ref oM, .ref oS, .ref oK, .ref oL, .ref oD])), (am, .inl (tm, 512, .inl (fun _ => 0))), (ho, .inl (to, 1, .inr (.inl fo)))] sz) [(ho, .inl (to, 1, .inr (.inl u)))]) (va_A [(h0, .inr (7, [.ref oB, .ref oP])), (oB, .inr (0, [.ref am, .ref oM, .ref oS, .ref oK, .ref oL, .ref oD])), (am, .inl (tm, 512, .inl (fun _ => 0))), (ho, .inl (to, 1, .inr (.inl fo)))] sz)) (vx_X (fun _ : Unit => True) (fun (E : String) (_ : Unit) (_ : State) => False) (va_A [(h0, .inr (7, [.ref oB, .ref oP])), (oB, .inr (0, [.ref am, .ref oM, .ref oS, .ref oK, .ref oL, .ref oD])), (am, .inl (tm, 512, .inl (fun _ => 0))), (ho, .inl (to, 1, .inr (.inl fo)))] sz)) 1 6 (va_A [(h0, .inr (7, [.ref oB, .ref oP])), (oB, .inr (0, [.ref am, .ref oM, .ref oS, .ref oK, .ref oL, .ref oD])), (am, .inl (tm, 512, .inl (fun _ => 0))), (ho, .inl (to, 1, .inr (.inl fo)))] sz) := by
  refine vx_ofWH (cc := cL_examine) (maxL := 4) (ret := (some .int)) (by decide) rfl ?_
  intro p e s m args below meth c s₁ B hml hv
  obtain ⟨rfl, hsz, hP, hK, hD0, hZU, hZN, hd1, hd2, hd3, hcI⟩ := hv
  have hx := B.exec
  have hb := B.bytes
  have hr := B.returns
  have hts := atoms_spec (ws := wsL_examine) B.pre
  have hown : s.vm.findClass RL = some m.cls := findClass_of_methodNamed B.named
  have hlocks := B.notSynchronized
  have htb := vx_table (x := yL_examine) (y := yL_examine) (bytes := cL_examine) (maxL' := 4) (ret' := (some .int)) (hh := [(0, 9, 12, 13)]) B (hts _ List.mem_cons_self)
  subst hsz
  have hD := hD0.self (sz := s.heap.size)
  generalize hAe : va_A [(h0, .inr (7, [.ref oB, .ref oP])), (oB, .inr (0, [.ref am, .ref oM, .ref oS, .ref oK, .ref oL, .ref oD])), (am, .inl (tm, 512, .inl (fun _ => 0))), (ho, .inl (to, 1, .inr (.inl fo)))] s.heap.size = A at hD hZU hZN ⊢
  have hA : ∀ q : Nat, s.heap.size ≤ q → A q := fun q h => by rw [← hAe]; exact Or.inr h
  have hS0 : ∀ G : Heap, s.heap = G → va_S A s.heap G [] := fun G h => by subst h; exact va_S.rf
  generalize hHe : s.heap = H at hP ⊢
  have hS := hS0 H hHe
  have hP : va_P (dC, dI) vwCl [(h0, .inr (7, [.ref oB, .ref oP])), (oB, .inr (0, [.ref am, .ref oM, .ref oS, .ref oK, .ref oL, .ref oD])), (am, .inl (tm, 512, .inl (fun _ => 0))), (ho, .inl (to, 1, .inr (.inl fo)))] H := hP
  have hD : va_D A [(h0, .inr (7, [.ref oB, .ref oP])), (oB, .inr (0, [.ref am, .ref oM, .ref oS, .ref oK, .ref oL, .ref oD])), (am, .inl (tm, 512, .inl (fun _ => 0))), (ho, .inl (to, 1, .inr (.inl fo)))] := hD
  have hK : va_K (dC, dI) vwCl [(tm, .int), (to, .long)] s := hK
  have hl := lv_entry ([.ref h0, .int p0, .ref ho]) (n := 4) (Nat.le_of_ble_eq_true rfl)
  rw [lg_entry_eq]
  generalize (lg_sl ([.ref h0, .int p0, .ref ho]) ++ List.replicate (4 - (lg_sl ([.ref h0, .int p0, .ref ho])).length) Slot.unset).toArray = ls at hl ⊢
  have hl : lv_has ls 4 [(0, .ref h0), (1, .int p0), (2, .ref ho)] := hl
  refine lv_aload_n hx hb dL_examine_0 rfl (lv_at hl 2 rfl) ?_
  refine lv_iconst (v := 0) hx hb dL_examine_1 (by decide) ?_
  refine lv_aload_n hx hb dL_examine_2 rfl (lv_at hl 0 rfl) ?_
  refine lv_iload_n hx hb dL_examine_3 rfl (lv_at hl 1 rfl) ?_
  have hPc := hP.sub (ws' := [(h0, .inr (7, [.ref oB, .ref oP])), (oB, .inr (0, [.ref am, .ref oM, .ref oS, .ref oK, .ref oL, .ref oD])), (am, .inl (tm, 512, .inl (fun _ => 0)))]) [0, 1, 2] rfl
  have hDc := hD.sub (ws' := [(h0, .inr (7, [.ref oB, .ref oP])), (oB, .inr (0, [.ref am, .ref oM, .ref oS, .ref oK, .ref oL, .ref oD])), (am, .inl (tm, 512, .inl (fun _ => 0)))]) [0, 1, 2] (by decide) rfl
  have hKc := hK.sub (tys' := [(tm, .int)]) [0] rfl
  have hFc := va_free (wc := [(h0, .inr (7, [.ref oB, .ref oP])), (oB, .inr (0, [.ref am, .ref oM, .ref oS, .ref oK, .ref oL, .ref oD])), (am, .inl (tm, 512, .inl (fun _ => 0)))]) hD hS hA [0, 1, 2] rfl
  refine vx_calli (vx_runV (As := [.int p0]) (rest := [.int 0, .ref ho]) ⟨hx, hb, hml, hown, hts⟩ (c_examine l dC dI h0 oB oP am oM oS oK oL oD tm p0 H.size hlt) (cwV 1 hts gL_examine_X8_examine rfl rfl rfl (by decide +kernel) ⟨Nat.le_of_ble_eq_true rfl, Nat.le_of_ble_eq_true rfl⟩) ⟨fun a U g mk q => by obtain ⟨q0, q1, qP, qK, qD, e0, e1, e2, e3, e4, e5⟩ := q; exact ⟨q0, q1, qP, va_K.moved (u := U) (U := U.calling g mk a) (Vm.Alike.refl U.vm) qK, qD, vx_Zq.moved (u := U) (U := U.calling g mk a) (Vm.Alike.refl U.vm) e0, vx_Zq.moved (u := U) (U := U.calling g mk a) (Vm.Alike.refl U.vm) e1, va_Nw.same (U := U.calling g mk a) rfl rfl e2, va_Nw.same (U := U.calling g mk a) rfl rfl e3, va_Nw.same (U := U.calling g mk a) rfl rfl e4, va_Nw.same (U := U.calling g mk a) rfl rfl e5⟩, va_recv hKc hPc (ci := 7) (q0 := 0) rfl rfl, fun U hU hW => ⟨rfl, by rw [hU], by rw [hU]; exact hPc, va_K.moved hW.alike hKc, hDc.weaken (fun _ _ _ _ => trivial), by rw [hU]; exact vx_Zq.moved hW.alike (vx_Zq.narrow (vx_Zq.kept hZU hS.2.1) hFc), by rw [hU]; exact vx_Zq.moved hW.alike (vx_Zq.narrow (vx_Zq.kept hZN hS.2.1) hFc), va_Nw.warmD hW hd1, va_Nw.warmD hW hd2, va_Nw.warmD hW hd3, va_Nw.warmC hW hcI⟩⟩ rfl rfl hl.1 rfl (lv_room (Nat.le_of_ble_eq_true rfl)) dL_examine_4 ⟨Nat.le_of_ble_eq_true rfl, Nat.le_of_ble_eq_true rfl⟩) hS (fun q _ h => hFc q h) hFc (fun q _ h => hFc q h) (fun E9 ce9 q9 u t H1 locs ht hvm hpx hBX hz1 hk1 hS hce hcv hcl => ?_) (fun r1 u2 t H1 locs ht hvm hw hB hz1 hk1 hS => ?_)
  · skip
    try dsimp only at hBX
    obtain ⟨hP, hD⟩ := va_join (wr := [(ho, .inl (to, 1, .inr (.inl fo)))]) (w1 := []) hP hD [0, 1, 2] [3] rfl rfl (by decide) (by decide) hk1 hFc (fun k q h => by simp at h) ⟨fun i j p q h => by simp at h, fun k q h => by simp at h⟩
    have hK := hK.sub (tys' := [(to, .long)]) [1] rfl
    rcases hBX with ⟨rfl, _⟩
    · refine vx_catch (own := RL) (name := "java/lang/IllegalArgumentException") hown [] ⟨0, 9, 12, 13⟩ [] (by rw [htb]; rfl) (fun z hz => nomatch hz) (by decide) (by decide) (hts (.classLink RL 13 "java/lang/IllegalArgumentException") (by decide +kernel)) (va_Nw.use rfl hcI) hce hcv hcl ?_
      generalize H1 = H at hP hS ⊢
      have hP : va_P (dC, dI) vwCl [(ho, .inl (to, 1, .inr (.inl fo)))] H := hP
      have hD : va_D A [(ho, .inl (to, 1, .inr (.inl fo)))] := hD
      have hK : va_K (dC, dI) vwCl [(to, .long)] s := hK
      refine W.widen (k := 1) (n := 6) (Nat.le_of_ble_eq_true rfl) (Nat.le_of_ble_eq_true rfl) ?_
      refine lv_astore_n (lv' := [(3, .ref q9), (0, .ref h0), (1, .int p0), (2, .ref ho)]) hx hb dL_examine_12 rfl hl (by decide) rfl (fun ls hl => ?_)
      refine lv_iconst (v := 1) hx hb dL_examine_13 (by decide) ?_
      have hP9 := hP.sub (ws' := [(ho, .inl (to, 1, .inr (.inl fo)))]) [0] rfl
      have hD9 := hD.sub (ws' := [(ho, .inl (to, 1, .inr (.inl fo)))]) [0] (by decide) rfl
      have hK9 := hK.sub (tys' := [(to, .long)]) [0] rfl
      refine vx_ret ?_
      exact W.iret (v := 1) hx hb hr (fun t ht hW => ⟨⟨1, (fo), rfl, (by first | (exact Or.inl ⟨rfl, by omega, rfl⟩) | (exact Or.inr ⟨rfl, by omega⟩)), by rw [ht]; exact hP9, va_K.moved hW.alike hK9, hD9⟩, hS.F ht⟩) hS.2.2 dL_examine_14
  · skip
    obtain ⟨hP1, hK1, hD1⟩ := hB
    rw [ht] at hP1
    have hK1 := va_K.moved hvm.symm hK1
    try dsimp only at hw
    obtain ⟨hP, hD⟩ := va_join (wr := [(ho, .inl (to, 1, .inr (.inl fo)))]) (w1 := []) hP hD [0, 1, 2] [3] rfl rfl (by decide) (by decide) hk1 hFc hP1 hD1
    have hK := (hK.sub (tys' := [(to, .long)]) [1] rfl).app hK1
    generalize H1 = H at hP hS ⊢
    have hP : va_P (dC, dI) vwCl [(ho, .inl (to, 1, .inr (.inl fo)))] H := hP
    have hD : va_D A [(ho, .inl (to, 1, .inr (.inl fo)))] := hD
    have hK : va_K (dC, dI) vwCl [(to, .long)] s := hK
    refine W.widen (k := 1) (n := 6) (Nat.le_of_ble_eq_true rfl) (Nat.le_of_ble_eq_true rfl) ?_
    obtain ⟨rfl, _⟩ := hw
    refine lv_i2l hx hb dL_examine_7 rfl ?_
    refine lv_topl (fun y3 ey3 => ?_)
    obtain rfl : y3 = 0 := by rw [ey3]; decide
    refine va_last (D := (dC, dI)) hx hb hK hP hD hS 0 0 rfl rfl (vp_in_iff.mpr (by decide)) dL_examine_8 (fun H locs hP hD hS => ?_)
    have hP : va_P (dC, dI) vwCl [(ho, .inl (to, 1, .inr (.inl (vp_updL fo (0 : Int32).toNatClampNeg 0))))] H := hP
    have hD : va_D A [(ho, .inl (to, 1, .inr (.inl (vp_updL fo (0 : Int32).toNatClampNeg 0))))] := hD
    refine lv_goto (tgt := 15) hx hb dL_examine_9 (by decide) ?_
    refine lv_iconst (v := 0) hx hb dL_examine_15 (by decide) ?_
    have hP9 := hP.sub (ws' := [(ho, .inl (to, 1, .inr (.inl (vp_updL fo (0 : Int32).toNatClampNeg 0))))]) [0] rfl
    have hD9 := hD.sub (ws' := [(ho, .inl (to, 1, .inr (.inl (vp_updL fo (0 : Int32).toNatClampNeg 0))))]) [0] (by decide) rfl
    have hK9 := hK.sub (tys' := [(to, .long)]) [0] rfl
    refine vx_ret ?_
    exact W.iret (v := 0) hx hb hr (fun t ht hW => ⟨⟨0, (vp_updL fo (0 : Int32).toNatClampNeg 0), rfl, (by first | (exact Or.inl ⟨rfl, by omega, rfl⟩) | (exact Or.inr ⟨rfl, by omega⟩)), by rw [ht]; exact hP9, va_K.moved hW.alike hK9, hD9⟩, hS.F ht⟩) hS.2.2 dL_examine_16
set_option maxHeartbeats 4000000 in
set_option maxRecDepth 100000 in
theorem c_L_set (l : Launch) (dC : Nat → ClassId) (dI : Nat → Nat → Nat) (h0 : Nat) (oB : Nat) (oP : Nat) (oS : Nat) (ar : Nat) (tr : ClassId) (p0 : Int32) (p1 : Int32) (sz : Nat) (hlt : l.stackTraces = false) : vx_Met l yL_set wsL_set ({ frames := 7, cells := 1, slots := 6, locals := 103 } : Room) (va_Pc [.ref h0, .int p0, .int p1] (fun U => U.heap.size = sz ∧ va_P (dC, dI) vwCl [(h0, .inr (7, [.ref oB, .ref oP])), (oP, .inr (5, [.ref ar, .ref oB, .ref oS, .int 0, .int 2, .int 0, .int 0, .int 0, .int 0])), (oS, .inr (6, [.int 0, .int (-1)])), (ar, .inl (tr, 8, .inl (fun _ => 0)))] U.heap ∧ va_K (dC, dI) vwCl [(tr, .int)] U ∧ va_D (fun _ => True) [(h0, .inr (7, [.ref oB, .ref oP])), (oP, .inr (5, [.ref ar, .ref oB, .ref oS, .int 0, .int 2, .int 0, .int 0, .int 0, .int 0])), (oS, .inr (6, [.int 0, .int (-1)])), (ar, .inl (tr, 8, .inl (fun _ => 0)))] ∧ vx_Zq Bundle.tN "UNASSIGNED_STACK" Bundle.steD (va_A [(h0, .inr (7, [.ref oB, .ref oP])), (oP, .inr (5, [.ref ar, .ref oB, .ref oS, .int 0, .int 2, .int 0, .int 0, .int 0, .int 0])), (oS, .inr (6, [.int 0, .int (-1)])), (ar, .inl (tr, 8, .inl (fun _ => 0)))] sz) U U.heap ∧ vx_Zq Bundle.tN "SUPPRESSED_SENTINEL" Bundle.listD (va_A [(h0, .inr (7, [.ref oB, .ref oP])), (oP, .inr (5, [.ref ar, .ref oB, .ref oS, .int 0, .int 2, .int 0, .int 0, .int 0, .int 0])), (oS, .inr (6, [.int 0, .int (-1)])), (ar, .inl (tr, 8, .inl (fun _ => 0)))] sz) U U.heap ∧ va_Nw (.declares (Bundle.init0 "java/lang/RuntimeException")) U ∧ va_Nw (.declares (Bundle.init0 "java/lang/Exception")) U ∧ va_Nw (.declares (Bundle.init0 Bundle.tN)) U ∧ va_Nw (.castable "java/lang/IllegalArgumentException" "java/lang/IllegalArgumentException") U)) (va_Qi (fun (r : Int32) (u : Unit) => (r = 0 ∧ ((0 ≤ p0.toInt ∧ p0.toInt ≤ 7) ∧ (0 ≤ p1.toInt ∧ p1.toInt ≤ 65535))) ∨ (r = 1 ∧ ¬ ((0 ≤ p0.toInt ∧ p0.toInt ≤ 7) ∧ (0 ≤ p1.toInt ∧ p1.toInt ≤ 65535)))) (fun (u : Unit) (t : State) => va_P (dC, dI) vwCl [] t.heap ∧ va_K (dC, dI) vwCl [] t ∧ va_D (va_A [(h0, .inr (7, [.ref oB, .ref oP])), (oP, .inr (5, [.ref ar, .ref oB, .ref oS, .int 0, .int 2, .int 0, .int 0, .int 0, .int 0])), (oS, .inr (6, [.int 0, .int (-1)])), (ar, .inl (tr, 8, .inl (fun _ => 0)))] sz) []) (va_A [(h0, .inr (7, [.ref oB, .ref oP])), (oP, .inr (5, [.ref ar, .ref oB, .ref oS, .int 0, .int 2, .int 0, .int 0, .int 0, .int 0])), (oS, .inr (6, [.int 0, .int (-1)])), (ar, .inl (tr, 8, .inl (fun _ => 0)))] sz)) (vx_X (fun _ : Unit => True) (fun (E : String) (_ : Unit) (_ : State) => False) (va_A [(h0, .inr (7, [.ref oB, .ref oP])), (oP, .inr (5, [.ref ar, .ref oB, .ref oS, .int 0, .int 2, .int 0, .int 0, .int 0, .int 0])), (oS, .inr (6, [.int 0, .int (-1)])), (ar, .inl (tr, 8, .inl (fun _ => 0)))] sz)) 1 6 (va_A [(h0, .inr (7, [.ref oB, .ref oP])), (oP, .inr (5, [.ref ar, .ref oB, .ref oS, .int 0, .int 2, .int 0, .int 0, .int 0, .int 0])), (oS, .inr (6, [.int 0, .int (-1)])), (ar, .inl (tr, 8, .inl (fun _ => 0)))] sz) := by
  refine vx_ofWH (cc := cL_set) (maxL := 4) (ret := (some .int)) (by decide) rfl ?_
  intro p e s m args below meth c s₁ B hml hv
  obtain ⟨rfl, hsz, hP, hK, hD0, hZU, hZN, hd1, hd2, hd3, hcI⟩ := hv
  have hx := B.exec
  have hb := B.bytes
  have hr := B.returns
  have hts := atoms_spec (ws := wsL_set) B.pre
  have hown : s.vm.findClass RL = some m.cls := findClass_of_methodNamed B.named
  have hlocks := B.notSynchronized
  have htb := vx_table (x := yL_set) (y := yL_set) (bytes := cL_set) (maxL' := 4) (ret' := (some .int)) (hh := [(0, 6, 9, 13)]) B (hts _ List.mem_cons_self)
  subst hsz
  have hD := hD0.self (sz := s.heap.size)
  generalize hAe : va_A [(h0, .inr (7, [.ref oB, .ref oP])), (oP, .inr (5, [.ref ar, .ref oB, .ref oS, .int 0, .int 2, .int 0, .int 0, .int 0, .int 0])), (oS, .inr (6, [.int 0, .int (-1)])), (ar, .inl (tr, 8, .inl (fun _ => 0)))] s.heap.size = A at hD hZU hZN ⊢
  have hA : ∀ q : Nat, s.heap.size ≤ q → A q := fun q h => by rw [← hAe]; exact Or.inr h
  have hS0 : ∀ G : Heap, s.heap = G → va_S A s.heap G [] := fun G h => by subst h; exact va_S.rf
  generalize hHe : s.heap = H at hP ⊢
  have hS := hS0 H hHe
  have hP : va_P (dC, dI) vwCl [(h0, .inr (7, [.ref oB, .ref oP])), (oP, .inr (5, [.ref ar, .ref oB, .ref oS, .int 0, .int 2, .int 0, .int 0, .int 0, .int 0])), (oS, .inr (6, [.int 0, .int (-1)])), (ar, .inl (tr, 8, .inl (fun _ => 0)))] H := hP
  have hD : va_D A [(h0, .inr (7, [.ref oB, .ref oP])), (oP, .inr (5, [.ref ar, .ref oB, .ref oS, .int 0, .int 2, .int 0, .int 0, .int 0, .int 0])), (oS, .inr (6, [.int 0, .int (-1)])), (ar, .inl (tr, 8, .inl (fun _ => 0)))] := hD
  have hK : va_K (dC, dI) vwCl [(tr, .int)] s := hK
  have hl := lv_entry ([.ref h0, .int p0, .int p1]) (n := 4) (Nat.le_of_ble_eq_true rfl)
  rw [lg_entry_eq]
  generalize (lg_sl ([.ref h0, .int p0, .int p1]) ++ List.replicate (4 - (lg_sl ([.ref h0, .int p0, .int p1])).length) Slot.unset).toArray = ls at hl ⊢
  have hl : lv_has ls 4 [(0, .ref h0), (1, .int p0), (2, .int p1)] := hl
  refine lv_aload_n hx hb dL_set_0 rfl (lv_at hl 0 rfl) ?_
  refine lv_iload_n hx hb dL_set_1 rfl (lv_at hl 1 rfl) ?_
  refine lv_iload_n hx hb dL_set_2 rfl (lv_at hl 2 rfl) ?_
  have hPc := hP.sub (ws' := [(h0, .inr (7, [.ref oB, .ref oP])), (oP, .inr (5, [.ref ar, .ref oB, .ref oS, .int 0, .int 2, .int 0, .int 0, .int 0, .int 0])), (oS, .inr (6, [.int 0, .int (-1)])), (ar, .inl (tr, 8, .inl (fun _ => 0)))]) [0, 1, 2, 3] rfl
  have hDc := hD.sub (ws' := [(h0, .inr (7, [.ref oB, .ref oP])), (oP, .inr (5, [.ref ar, .ref oB, .ref oS, .int 0, .int 2, .int 0, .int 0, .int 0, .int 0])), (oS, .inr (6, [.int 0, .int (-1)])), (ar, .inl (tr, 8, .inl (fun _ => 0)))]) [0, 1, 2, 3] (by decide) rfl
  have hKc := hK.sub (tys' := [(tr, .int)]) [0] rfl
  have hFc := va_free (wc := [(h0, .inr (7, [.ref oB, .ref oP])), (oP, .inr (5, [.ref ar, .ref oB, .ref oS, .int 0, .int 2, .int 0, .int 0, .int 0, .int 0])), (oS, .inr (6, [.int 0, .int (-1)])), (ar, .inl (tr, 8, .inl (fun _ => 0)))]) hD hS hA [0, 1, 2, 3] rfl
  refine vx_callv (vx_runV (As := [.int p0, .int p1]) (rest := []) ⟨hx, hb, hml, hown, hts⟩ (c_set l dC dI h0 oB oP oS ar tr p0 p1 H.size hlt) (cwV 2 hts gL_set_X8_set rfl rfl rfl (by decide +kernel) ⟨Nat.le_of_ble_eq_true rfl, Nat.le_of_ble_eq_true rfl⟩) ⟨fun a U g mk q => by obtain ⟨q0, q1, qP, qK, qD, e0, e1, e2, e3, e4, e5⟩ := q; exact ⟨q0, q1, qP, va_K.moved (u := U) (U := U.calling g mk a) (Vm.Alike.refl U.vm) qK, qD, vx_Zq.moved (u := U) (U := U.calling g mk a) (Vm.Alike.refl U.vm) e0, vx_Zq.moved (u := U) (U := U.calling g mk a) (Vm.Alike.refl U.vm) e1, va_Nw.same (U := U.calling g mk a) rfl rfl e2, va_Nw.same (U := U.calling g mk a) rfl rfl e3, va_Nw.same (U := U.calling g mk a) rfl rfl e4, va_Nw.same (U := U.calling g mk a) rfl rfl e5⟩, va_recv hKc hPc (ci := 7) (q0 := 0) rfl rfl, fun U hU hW => ⟨rfl, by rw [hU], by rw [hU]; exact hPc, va_K.moved hW.alike hKc, hDc.weaken (fun _ _ _ _ => trivial), by rw [hU]; exact vx_Zq.moved hW.alike (vx_Zq.narrow (vx_Zq.kept hZU hS.2.1) hFc), by rw [hU]; exact vx_Zq.moved hW.alike (vx_Zq.narrow (vx_Zq.kept hZN hS.2.1) hFc), va_Nw.warmD hW hd1, va_Nw.warmD hW hd2, va_Nw.warmD hW hd3, va_Nw.warmC hW hcI⟩⟩ rfl rfl hl.1 rfl (lv_room (Nat.le_of_ble_eq_true rfl)) dL_set_3 ⟨Nat.le_of_ble_eq_true rfl, Nat.le_of_ble_eq_true rfl⟩) hS (fun q _ h => hFc q h) hFc (fun q _ h => hFc q h) (fun E9 ce9 q9 u t H1 locs ht hvm hpx hBX hz1 hk1 hS hce hcv hcl => ?_) (fun u2 t H1 locs ht hvm hw hB hz1 hk1 hS => ?_)
  · skip
    try dsimp only at hBX
    obtain ⟨hP, hD⟩ := va_join (wr := []) (w1 := []) hP hD [0, 1, 2, 3] [] rfl rfl (by decide) (by decide) hk1 hFc (fun k q h => by simp at h) ⟨fun i j p q h => by simp at h, fun k q h => by simp at h⟩
    have hK := hK.sub (tys' := []) [] rfl
    rcases hBX with ⟨rfl, _⟩
    · refine vx_catch (own := RL) (name := "java/lang/IllegalArgumentException") hown [] ⟨0, 6, 9, 13⟩ [] (by rw [htb]; rfl) (fun z hz => nomatch hz) (by decide) (by decide) (hts (.classLink RL 13 "java/lang/IllegalArgumentException") (by decide +kernel)) (va_Nw.use rfl hcI) hce hcv hcl ?_
      generalize H1 = H at hP hS ⊢
      have hP : va_P (dC, dI) vwCl [] H := hP
      have hD : va_D A [] := hD
      have hK : va_K (dC, dI) vwCl [] s := hK
      refine W.widen (k := 1) (n := 6) (Nat.le_of_ble_eq_true rfl) (Nat.le_of_ble_eq_true rfl) ?_
      refine lv_astore_n (lv' := [(3, .ref q9), (0, .ref h0), (1, .int p0), (2, .int p1)]) hx hb dL_set_9 rfl hl (by decide) rfl (fun ls hl => ?_)
      refine lv_iconst (v := 1) hx hb dL_set_10 (by decide) ?_
      have hP9 := hP.sub (ws' := []) [] rfl
      have hD9 := hD.sub (ws' := []) [] (by decide) rfl
      have hK9 := hK.sub (tys' := []) [] rfl
      refine vx_ret ?_
      exact W.iret (v := 1) hx hb hr (fun t ht hW => ⟨⟨1, (), rfl, (by first | (exact Or.inl ⟨rfl, by omega⟩) | (exact Or.inr ⟨rfl, by omega⟩)), by rw [ht]; exact hP9, va_K.moved hW.alike hK9, hD9⟩, hS.F ht⟩) hS.2.2 dL_set_11
  · skip
    obtain ⟨hP1, hK1, hD1⟩ := hB
    rw [ht] at hP1
    have hK1 := va_K.moved hvm.symm hK1
    try dsimp only at hw
    obtain ⟨hP, hD⟩ := va_join (wr := []) (w1 := []) hP hD [0, 1, 2, 3] [] rfl rfl (by decide) (by decide) hk1 hFc hP1 hD1
    have hK := (hK.sub (tys' := []) [] rfl).app hK1
    generalize H1 = H at hP hS ⊢
    have hP : va_P (dC, dI) vwCl [] H := hP
    have hD : va_D A [] := hD
    have hK : va_K (dC, dI) vwCl [] s := hK
    refine W.widen (k := 1) (n := 6) (Nat.le_of_ble_eq_true rfl) (Nat.le_of_ble_eq_true rfl) ?_
    refine lv_goto (tgt := 12) hx hb dL_set_6 (by decide) ?_
    refine lv_iconst (v := 0) hx hb dL_set_12 (by decide) ?_
    have hP9 := hP.sub (ws' := []) [] rfl
    have hD9 := hD.sub (ws' := []) [] (by decide) rfl
    have hK9 := hK.sub (tys' := []) [] rfl
    refine vx_ret ?_
    exact W.iret (v := 0) hx hb hr (fun t ht hW => ⟨⟨0, (), rfl, (by first | (exact Or.inl ⟨rfl, by omega⟩) | (exact Or.inr ⟨rfl, by omega⟩)), by rw [ht]; exact hP9, va_K.moved hW.alike hK9, hD9⟩, hS.F ht⟩) hS.2.2 dL_set_13
set_option maxHeartbeats 4000000 in
set_option maxRecDepth 100000 in
theorem c_L_register (l : Launch) (dC : Nat → ClassId) (dI : Nat → Nat → Nat) (h0 : Nat) (oB : Nat) (oP : Nat) (am : Nat) (oM : Nat) (oS : Nat) (oK : Nat) (oL : Nat) (oD : Nat) (ar : Nat) (tr : ClassId) (p0 : Int32) (ho : Nat) (to : ClassId) (fo : Nat → Int64) (sz : Nat) (hlt : l.stackTraces = false) : vx_Met l yL_register wsL_register ({ frames := 7, cells := 1, slots := 6, locals := 102 } : Room) (va_Pc [.ref h0, .int p0, .ref ho] (fun U => U.heap.size = sz ∧ va_P (dC, dI) vwCl [(h0, .inr (7, [.ref oB, .ref oP])), (oB, .inr (0, [.ref am, .ref oM, .ref oS, .ref oK, .ref oL, .ref oD])), (oS, .inr (6, [.int 0, .int (-1)])), (oP, .inr (5, [.ref ar, .ref oB, .ref oS, .int 0, .int 2, .int 0, .int 0, .int 0, .int 0])), (ar, .inl (tr, 8, .inl (fun _ => 0))), (ho, .inl (to, 1, .inr (.inl fo)))] U.heap ∧ va_K (dC, dI) vwCl [(tr, .int), (to, .long)] U ∧ va_D (fun _ => True) [(h0, .inr (7, [.ref oB, .ref oP])), (oB, .inr (0, [.ref am, .ref oM, .ref oS, .ref oK, .ref oL, .ref oD])), (oS, .inr (6, [.int 0, .int (-1)])), (oP, .inr (5, [.ref ar, .ref oB, .ref oS, .int 0, .int 2, .int 0, .int 0, .int 0, .int 0])), (ar, .inl (tr, 8, .inl (fun _ => 0))), (ho, .inl (to, 1, .inr (.inl fo)))] ∧ vx_Zq Bundle.tN "UNASSIGNED_STACK" Bundle.steD (va_A [(h0, .inr (7, [.ref oB, .ref oP])), (oB, .inr (0, [.ref am, .ref oM, .ref oS, .ref oK, .ref oL, .ref oD])), (oS, .inr (6, [.int 0, .int (-1)])), (oP, .inr (5, [.ref ar, .ref oB, .ref oS, .int 0, .int 2, .int 0, .int 0, .int 0, .int 0])), (ar, .inl (tr, 8, .inl (fun _ => 0))), (ho, .inl (to, 1, .inr (.inl fo)))] sz) U U.heap ∧ vx_Zq Bundle.tN "SUPPRESSED_SENTINEL" Bundle.listD (va_A [(h0, .inr (7, [.ref oB, .ref oP])), (oB, .inr (0, [.ref am, .ref oM, .ref oS, .ref oK, .ref oL, .ref oD])), (oS, .inr (6, [.int 0, .int (-1)])), (oP, .inr (5, [.ref ar, .ref oB, .ref oS, .int 0, .int 2, .int 0, .int 0, .int 0, .int 0])), (ar, .inl (tr, 8, .inl (fun _ => 0))), (ho, .inl (to, 1, .inr (.inl fo)))] sz) U U.heap ∧ va_Nw (.declares (Bundle.init0 "java/lang/RuntimeException")) U ∧ va_Nw (.declares (Bundle.init0 "java/lang/Exception")) U ∧ va_Nw (.declares (Bundle.init0 Bundle.tN)) U ∧ va_Nw (.castable "java/lang/IllegalArgumentException" "java/lang/IllegalArgumentException") U)) (va_Qi (fun (r : Int32) (u : (Nat → Int64)) => (r = 0 ∧ (0 ≤ p0.toInt ∧ p0.toInt ≤ 9) ∧ u (0 : Int32).toNatClampNeg = 0) ∨ (r = 1 ∧ ¬ (0 ≤ p0.toInt ∧ p0.toInt ≤ 9))) (fun (u : (Nat → Int64)) (t : State) => va_P (dC, dI) vwCl [(ho, .inl (to, 1, .inr (.inl u)))] t.heap ∧ va_K (dC, dI) vwCl [(to, .long)] t ∧ va_D (va_A [(h0, .inr (7, [.ref oB, .ref oP])), (oB, .inr (0, [.ref am, .ref oM, .ref oS, .ref oK, .ref oL, .ref oD])), (oS, .inr (6, [.int 0, .int (-1)])), (oP, .inr (5, [.ref ar, .ref oB, .ref oS, .int 0, .int 2, .int 0, .int 0, .int 0, .int 0])), (ar, .inl (tr, 8, .inl (fun _ => 0))), (ho, .inl (to, 1, .inr (.inl fo)))] sz) [(ho, .inl (to, 1, .inr (.inl u)))]) (va_A [(h0, .inr (7, [.ref oB, .ref oP])), (oB, .inr (0, [.ref am, .ref oM, .ref oS, .ref oK, .ref oL, .ref oD])), (oS, .inr (6, [.int 0, .int (-1)])), (oP, .inr (5, [.ref ar, .ref oB, .ref oS, .int 0, .int 2, .int 0, .int 0, .int 0, .int 0])), (ar, .inl (tr, 8, .inl (fun _ => 0))), (ho, .inl (to, 1, .inr (.inl fo)))] sz)) (vx_X (fun _ : Unit => True) (fun (E : String) (_ : Unit) (_ : State) => False) (va_A [(h0, .inr (7, [.ref oB, .ref oP])), (oB, .inr (0, [.ref am, .ref oM, .ref oS, .ref oK, .ref oL, .ref oD])), (oS, .inr (6, [.int 0, .int (-1)])), (oP, .inr (5, [.ref ar, .ref oB, .ref oS, .int 0, .int 2, .int 0, .int 0, .int 0, .int 0])), (ar, .inl (tr, 8, .inl (fun _ => 0))), (ho, .inl (to, 1, .inr (.inl fo)))] sz)) 1 6 (va_A [(h0, .inr (7, [.ref oB, .ref oP])), (oB, .inr (0, [.ref am, .ref oM, .ref oS, .ref oK, .ref oL, .ref oD])), (oS, .inr (6, [.int 0, .int (-1)])), (oP, .inr (5, [.ref ar, .ref oB, .ref oS, .int 0, .int 2, .int 0, .int 0, .int 0, .int 0])), (ar, .inl (tr, 8, .inl (fun _ => 0))), (ho, .inl (to, 1, .inr (.inl fo)))] sz) := by
  refine vx_ofWH (cc := cL_register) (maxL := 4) (ret := (some .int)) (by decide) rfl ?_
  intro p e s m args below meth c s₁ B hml hv
  obtain ⟨rfl, hsz, hP, hK, hD0, hZU, hZN, hd1, hd2, hd3, hcI⟩ := hv
  have hx := B.exec
  have hb := B.bytes
  have hr := B.returns
  have hts := atoms_spec (ws := wsL_register) B.pre
  have hown : s.vm.findClass RL = some m.cls := findClass_of_methodNamed B.named
  have hlocks := B.notSynchronized
  have htb := vx_table (x := yL_register) (y := yL_register) (bytes := cL_register) (maxL' := 4) (ret' := (some .int)) (hh := [(0, 9, 12, 13)]) B (hts _ List.mem_cons_self)
  subst hsz
  have hD := hD0.self (sz := s.heap.size)
  generalize hAe : va_A [(h0, .inr (7, [.ref oB, .ref oP])), (oB, .inr (0, [.ref am, .ref oM, .ref oS, .ref oK, .ref oL, .ref oD])), (oS, .inr (6, [.int 0, .int (-1)])), (oP, .inr (5, [.ref ar, .ref oB, .ref oS, .int 0, .int 2, .int 0, .int 0, .int 0, .int 0])), (ar, .inl (tr, 8, .inl (fun _ => 0))), (ho, .inl (to, 1, .inr (.inl fo)))] s.heap.size = A at hD hZU hZN ⊢
  have hA : ∀ q : Nat, s.heap.size ≤ q → A q := fun q h => by rw [← hAe]; exact Or.inr h
  have hS0 : ∀ G : Heap, s.heap = G → va_S A s.heap G [] := fun G h => by subst h; exact va_S.rf
  generalize hHe : s.heap = H at hP ⊢
  have hS := hS0 H hHe
  have hP : va_P (dC, dI) vwCl [(h0, .inr (7, [.ref oB, .ref oP])), (oB, .inr (0, [.ref am, .ref oM, .ref oS, .ref oK, .ref oL, .ref oD])), (oS, .inr (6, [.int 0, .int (-1)])), (oP, .inr (5, [.ref ar, .ref oB, .ref oS, .int 0, .int 2, .int 0, .int 0, .int 0, .int 0])), (ar, .inl (tr, 8, .inl (fun _ => 0))), (ho, .inl (to, 1, .inr (.inl fo)))] H := hP
  have hD : va_D A [(h0, .inr (7, [.ref oB, .ref oP])), (oB, .inr (0, [.ref am, .ref oM, .ref oS, .ref oK, .ref oL, .ref oD])), (oS, .inr (6, [.int 0, .int (-1)])), (oP, .inr (5, [.ref ar, .ref oB, .ref oS, .int 0, .int 2, .int 0, .int 0, .int 0, .int 0])), (ar, .inl (tr, 8, .inl (fun _ => 0))), (ho, .inl (to, 1, .inr (.inl fo)))] := hD
  have hK : va_K (dC, dI) vwCl [(tr, .int), (to, .long)] s := hK
  have hl := lv_entry ([.ref h0, .int p0, .ref ho]) (n := 4) (Nat.le_of_ble_eq_true rfl)
  rw [lg_entry_eq]
  generalize (lg_sl ([.ref h0, .int p0, .ref ho]) ++ List.replicate (4 - (lg_sl ([.ref h0, .int p0, .ref ho])).length) Slot.unset).toArray = ls at hl ⊢
  have hl : lv_has ls 4 [(0, .ref h0), (1, .int p0), (2, .ref ho)] := hl
  refine lv_aload_n hx hb dL_register_0 rfl (lv_at hl 2 rfl) ?_
  refine lv_iconst (v := 0) hx hb dL_register_1 (by decide) ?_
  refine lv_aload_n hx hb dL_register_2 rfl (lv_at hl 0 rfl) ?_
  refine lv_iload_n hx hb dL_register_3 rfl (lv_at hl 1 rfl) ?_
  have hPc := hP.sub (ws' := [(h0, .inr (7, [.ref oB, .ref oP])), (oB, .inr (0, [.ref am, .ref oM, .ref oS, .ref oK, .ref oL, .ref oD])), (oS, .inr (6, [.int 0, .int (-1)])), (oP, .inr (5, [.ref ar, .ref oB, .ref oS, .int 0, .int 2, .int 0, .int 0, .int 0, .int 0])), (ar, .inl (tr, 8, .inl (fun _ => 0)))]) [0, 1, 2, 3, 4] rfl
  have hDc := hD.sub (ws' := [(h0, .inr (7, [.ref oB, .ref oP])), (oB, .inr (0, [.ref am, .ref oM, .ref oS, .ref oK, .ref oL, .ref oD])), (oS, .inr (6, [.int 0, .int (-1)])), (oP, .inr (5, [.ref ar, .ref oB, .ref oS, .int 0, .int 2, .int 0, .int 0, .int 0, .int 0])), (ar, .inl (tr, 8, .inl (fun _ => 0)))]) [0, 1, 2, 3, 4] (by decide) rfl
  have hKc := hK.sub (tys' := [(tr, .int)]) [0] rfl
  have hFc := va_free (wc := [(h0, .inr (7, [.ref oB, .ref oP])), (oB, .inr (0, [.ref am, .ref oM, .ref oS, .ref oK, .ref oL, .ref oD])), (oS, .inr (6, [.int 0, .int (-1)])), (oP, .inr (5, [.ref ar, .ref oB, .ref oS, .int 0, .int 2, .int 0, .int 0, .int 0, .int 0])), (ar, .inl (tr, 8, .inl (fun _ => 0)))]) hD hS hA [0, 1, 2, 3, 4] rfl
  refine vx_calli (vx_runV (As := [.int p0]) (rest := [.int 0, .ref ho]) ⟨hx, hb, hml, hown, hts⟩ (c_register l dC dI h0 oB oP am oM oS oK oL oD ar tr p0 H.size hlt) (cwV 1 hts gL_register_X8_register rfl rfl rfl (by decide +kernel) ⟨Nat.le_of_ble_eq_true rfl, Nat.le_of_ble_eq_true rfl⟩) ⟨fun a U g mk q => by obtain ⟨q0, q1, qP, qK, qD, e0, e1, e2, e3, e4, e5⟩ := q; exact ⟨q0, q1, qP, va_K.moved (u := U) (U := U.calling g mk a) (Vm.Alike.refl U.vm) qK, qD, vx_Zq.moved (u := U) (U := U.calling g mk a) (Vm.Alike.refl U.vm) e0, vx_Zq.moved (u := U) (U := U.calling g mk a) (Vm.Alike.refl U.vm) e1, va_Nw.same (U := U.calling g mk a) rfl rfl e2, va_Nw.same (U := U.calling g mk a) rfl rfl e3, va_Nw.same (U := U.calling g mk a) rfl rfl e4, va_Nw.same (U := U.calling g mk a) rfl rfl e5⟩, va_recv hKc hPc (ci := 7) (q0 := 0) rfl rfl, fun U hU hW => ⟨rfl, by rw [hU], by rw [hU]; exact hPc, va_K.moved hW.alike hKc, hDc.weaken (fun _ _ _ _ => trivial), by rw [hU]; exact vx_Zq.moved hW.alike (vx_Zq.narrow (vx_Zq.kept hZU hS.2.1) hFc), by rw [hU]; exact vx_Zq.moved hW.alike (vx_Zq.narrow (vx_Zq.kept hZN hS.2.1) hFc), va_Nw.warmD hW hd1, va_Nw.warmD hW hd2, va_Nw.warmD hW hd3, va_Nw.warmC hW hcI⟩⟩ rfl rfl hl.1 rfl (lv_room (Nat.le_of_ble_eq_true rfl)) dL_register_4 ⟨Nat.le_of_ble_eq_true rfl, Nat.le_of_ble_eq_true rfl⟩) hS (fun q _ h => hFc q h) hFc (fun q _ h => hFc q h) (fun E9 ce9 q9 u t H1 locs ht hvm hpx hBX hz1 hk1 hS hce hcv hcl => ?_) (fun r1 u2 t H1 locs ht hvm hw hB hz1 hk1 hS => ?_)
  · skip
    try dsimp only at hBX
    obtain ⟨hP, hD⟩ := va_join (wr := [(ho, .inl (to, 1, .inr (.inl fo)))]) (w1 := []) hP hD [0, 1, 2, 3, 4] [5] rfl rfl (by decide) (by decide) hk1 hFc (fun k q h => by simp at h) ⟨fun i j p q h => by simp at h, fun k q h => by simp at h⟩
    have hK := hK.sub (tys' := [(to, .long)]) [1] rfl
    rcases hBX with ⟨rfl, _⟩
    · refine vx_catch (own := RL) (name := "java/lang/IllegalArgumentException") hown [] ⟨0, 9, 12, 13⟩ [] (by rw [htb]; rfl) (fun z hz => nomatch hz) (by decide) (by decide) (hts (.classLink RL 13 "java/lang/IllegalArgumentException") (by decide +kernel)) (va_Nw.use rfl hcI) hce hcv hcl ?_
      generalize H1 = H at hP hS ⊢
      have hP : va_P (dC, dI) vwCl [(ho, .inl (to, 1, .inr (.inl fo)))] H := hP
      have hD : va_D A [(ho, .inl (to, 1, .inr (.inl fo)))] := hD
      have hK : va_K (dC, dI) vwCl [(to, .long)] s := hK
      refine W.widen (k := 1) (n := 6) (Nat.le_of_ble_eq_true rfl) (Nat.le_of_ble_eq_true rfl) ?_
      refine lv_astore_n (lv' := [(3, .ref q9), (0, .ref h0), (1, .int p0), (2, .ref ho)]) hx hb dL_register_12 rfl hl (by decide) rfl (fun ls hl => ?_)
      refine lv_iconst (v := 1) hx hb dL_register_13 (by decide) ?_
      have hP9 := hP.sub (ws' := [(ho, .inl (to, 1, .inr (.inl fo)))]) [0] rfl
      have hD9 := hD.sub (ws' := [(ho, .inl (to, 1, .inr (.inl fo)))]) [0] (by decide) rfl
      have hK9 := hK.sub (tys' := [(to, .long)]) [0] rfl
      refine vx_ret ?_
      exact W.iret (v := 1) hx hb hr (fun t ht hW => ⟨⟨1, (fo), rfl, (by first | (exact Or.inl ⟨rfl, by omega, rfl⟩) | (exact Or.inr ⟨rfl, by omega⟩)), by rw [ht]; exact hP9, va_K.moved hW.alike hK9, hD9⟩, hS.F ht⟩) hS.2.2 dL_register_14
  · skip
    obtain ⟨hP1, hK1, hD1⟩ := hB
    rw [ht] at hP1
    have hK1 := va_K.moved hvm.symm hK1
    try dsimp only at hw
    obtain ⟨hP, hD⟩ := va_join (wr := [(ho, .inl (to, 1, .inr (.inl fo)))]) (w1 := []) hP hD [0, 1, 2, 3, 4] [5] rfl rfl (by decide) (by decide) hk1 hFc hP1 hD1
    have hK := (hK.sub (tys' := [(to, .long)]) [1] rfl).app hK1
    generalize H1 = H at hP hS ⊢
    have hP : va_P (dC, dI) vwCl [(ho, .inl (to, 1, .inr (.inl fo)))] H := hP
    have hD : va_D A [(ho, .inl (to, 1, .inr (.inl fo)))] := hD
    have hK : va_K (dC, dI) vwCl [(to, .long)] s := hK
    refine W.widen (k := 1) (n := 6) (Nat.le_of_ble_eq_true rfl) (Nat.le_of_ble_eq_true rfl) ?_
    obtain ⟨rfl, _⟩ := hw
    refine lv_i2l hx hb dL_register_7 rfl ?_
    refine lv_topl (fun y3 ey3 => ?_)
    obtain rfl : y3 = 0 := by rw [ey3]; decide
    refine va_last (D := (dC, dI)) hx hb hK hP hD hS 0 0 rfl rfl (vp_in_iff.mpr (by decide)) dL_register_8 (fun H locs hP hD hS => ?_)
    have hP : va_P (dC, dI) vwCl [(ho, .inl (to, 1, .inr (.inl (vp_updL fo (0 : Int32).toNatClampNeg 0))))] H := hP
    have hD : va_D A [(ho, .inl (to, 1, .inr (.inl (vp_updL fo (0 : Int32).toNatClampNeg 0))))] := hD
    refine lv_goto (tgt := 15) hx hb dL_register_9 (by decide) ?_
    refine lv_iconst (v := 0) hx hb dL_register_15 (by decide) ?_
    have hP9 := hP.sub (ws' := [(ho, .inl (to, 1, .inr (.inl (vp_updL fo (0 : Int32).toNatClampNeg 0))))]) [0] rfl
    have hD9 := hD.sub (ws' := [(ho, .inl (to, 1, .inr (.inl (vp_updL fo (0 : Int32).toNatClampNeg 0))))]) [0] (by decide) rfl
    have hK9 := hK.sub (tys' := [(to, .long)]) [0] rfl
    refine vx_ret ?_
    exact W.iret (v := 0) hx hb hr (fun t ht hW => ⟨⟨0, (vp_updL fo (0 : Int32).toNatClampNeg 0), rfl, (by first | (exact Or.inl ⟨rfl, by omega, rfl⟩) | (exact Or.inr ⟨rfl, by omega⟩)), by rw [ht]; exact hP9, va_K.moved hW.alike hK9, hD9⟩, hS.F ht⟩) hS.2.2 dL_register_16
set_option maxHeartbeats 4000000 in
set_option maxRecDepth 100000 in
theorem c_L_start (l : Launch) (dC : Nat → ClassId) (dI : Nat → Nat → Nat) (h0 : Nat) (oB : Nat) (oP : Nat) (oS : Nat) (ar : Nat) (tr : ClassId) (p0 : Int32) (sz : Nat) (hlt : l.stackTraces = false) : vx_Met l yL_start wsL_start ({ frames := 7, cells := 1, slots := 6, locals := 102 } : Room) (va_Pc [.ref h0, .int p0] (fun U => U.heap.size = sz ∧ va_P (dC, dI) vwCl [(h0, .inr (7, [.ref oB, .ref oP])), (oP, .inr (5, [.ref ar, .ref oB, .ref oS, .int 0, .int 2, .int 0, .int 0, .int 0, .int 0])), (oS, .inr (6, [.int 0, .int (-1)])), (ar, .inl (tr, 8, .inl (fun _ => 0)))] U.heap ∧ va_K (dC, dI) vwCl [(tr, .int)] U ∧ va_D (fun _ => True) [(h0, .inr (7, [.ref oB, .ref oP])), (oP, .inr (5, [.ref ar, .ref oB, .ref oS, .int 0, .int 2, .int 0, .int 0, .int 0, .int 0])), (oS, .inr (6, [.int 0, .int (-1)])), (ar, .inl (tr, 8, .inl (fun _ => 0)))] ∧ vx_Zq Bundle.tN "UNASSIGNED_STACK" Bundle.steD (va_A [(h0, .inr (7, [.ref oB, .ref oP])), (oP, .inr (5, [.ref ar, .ref oB, .ref oS, .int 0, .int 2, .int 0, .int 0, .int 0, .int 0])), (oS, .inr (6, [.int 0, .int (-1)])), (ar, .inl (tr, 8, .inl (fun _ => 0)))] sz) U U.heap ∧ vx_Zq Bundle.tN "SUPPRESSED_SENTINEL" Bundle.listD (va_A [(h0, .inr (7, [.ref oB, .ref oP])), (oP, .inr (5, [.ref ar, .ref oB, .ref oS, .int 0, .int 2, .int 0, .int 0, .int 0, .int 0])), (oS, .inr (6, [.int 0, .int (-1)])), (ar, .inl (tr, 8, .inl (fun _ => 0)))] sz) U U.heap ∧ va_Nw (.declares (Bundle.init0 "java/lang/RuntimeException")) U ∧ va_Nw (.declares (Bundle.init0 "java/lang/Exception")) U ∧ va_Nw (.declares (Bundle.init0 Bundle.tN)) U ∧ va_Nw (.castable "java/lang/IllegalArgumentException" "java/lang/IllegalArgumentException") U)) (va_Qi (fun (r : Int32) (u : Unit) => (r = 0 ∧ (0 ≤ p0.toInt ∧ p0.toInt ≤ 65535)) ∨ (r = 1 ∧ ¬ (0 ≤ p0.toInt ∧ p0.toInt ≤ 65535))) (fun (u : Unit) (t : State) => va_P (dC, dI) vwCl [] t.heap ∧ va_K (dC, dI) vwCl [] t ∧ va_D (va_A [(h0, .inr (7, [.ref oB, .ref oP])), (oP, .inr (5, [.ref ar, .ref oB, .ref oS, .int 0, .int 2, .int 0, .int 0, .int 0, .int 0])), (oS, .inr (6, [.int 0, .int (-1)])), (ar, .inl (tr, 8, .inl (fun _ => 0)))] sz) []) (va_A [(h0, .inr (7, [.ref oB, .ref oP])), (oP, .inr (5, [.ref ar, .ref oB, .ref oS, .int 0, .int 2, .int 0, .int 0, .int 0, .int 0])), (oS, .inr (6, [.int 0, .int (-1)])), (ar, .inl (tr, 8, .inl (fun _ => 0)))] sz)) (vx_X (fun _ : Unit => True) (fun (E : String) (_ : Unit) (_ : State) => False) (va_A [(h0, .inr (7, [.ref oB, .ref oP])), (oP, .inr (5, [.ref ar, .ref oB, .ref oS, .int 0, .int 2, .int 0, .int 0, .int 0, .int 0])), (oS, .inr (6, [.int 0, .int (-1)])), (ar, .inl (tr, 8, .inl (fun _ => 0)))] sz)) 1 6 (va_A [(h0, .inr (7, [.ref oB, .ref oP])), (oP, .inr (5, [.ref ar, .ref oB, .ref oS, .int 0, .int 2, .int 0, .int 0, .int 0, .int 0])), (oS, .inr (6, [.int 0, .int (-1)])), (ar, .inl (tr, 8, .inl (fun _ => 0)))] sz) := by
  refine vx_ofWH (cc := cL_start) (maxL := 3) (ret := (some .int)) (by decide) rfl ?_
  intro p e s m args below meth c s₁ B hml hv
  obtain ⟨rfl, hsz, hP, hK, hD0, hZU, hZN, hd1, hd2, hd3, hcI⟩ := hv
  have hx := B.exec
  have hb := B.bytes
  have hr := B.returns
  have hts := atoms_spec (ws := wsL_start) B.pre
  have hown : s.vm.findClass RL = some m.cls := findClass_of_methodNamed B.named
  have hlocks := B.notSynchronized
  have htb := vx_table (x := yL_start) (y := yL_start) (bytes := cL_start) (maxL' := 3) (ret' := (some .int)) (hh := [(0, 5, 8, 13)]) B (hts _ List.mem_cons_self)
  subst hsz
  have hD := hD0.self (sz := s.heap.size)
  generalize hAe : va_A [(h0, .inr (7, [.ref oB, .ref oP])), (oP, .inr (5, [.ref ar, .ref oB, .ref oS, .int 0, .int 2, .int 0, .int 0, .int 0, .int 0])), (oS, .inr (6, [.int 0, .int (-1)])), (ar, .inl (tr, 8, .inl (fun _ => 0)))] s.heap.size = A at hD hZU hZN ⊢
  have hA : ∀ q : Nat, s.heap.size ≤ q → A q := fun q h => by rw [← hAe]; exact Or.inr h
  have hS0 : ∀ G : Heap, s.heap = G → va_S A s.heap G [] := fun G h => by subst h; exact va_S.rf
  generalize hHe : s.heap = H at hP ⊢
  have hS := hS0 H hHe
  have hP : va_P (dC, dI) vwCl [(h0, .inr (7, [.ref oB, .ref oP])), (oP, .inr (5, [.ref ar, .ref oB, .ref oS, .int 0, .int 2, .int 0, .int 0, .int 0, .int 0])), (oS, .inr (6, [.int 0, .int (-1)])), (ar, .inl (tr, 8, .inl (fun _ => 0)))] H := hP
  have hD : va_D A [(h0, .inr (7, [.ref oB, .ref oP])), (oP, .inr (5, [.ref ar, .ref oB, .ref oS, .int 0, .int 2, .int 0, .int 0, .int 0, .int 0])), (oS, .inr (6, [.int 0, .int (-1)])), (ar, .inl (tr, 8, .inl (fun _ => 0)))] := hD
  have hK : va_K (dC, dI) vwCl [(tr, .int)] s := hK
  have hl := lv_entry ([.ref h0, .int p0]) (n := 3) (Nat.le_of_ble_eq_true rfl)
  rw [lg_entry_eq]
  generalize (lg_sl ([.ref h0, .int p0]) ++ List.replicate (3 - (lg_sl ([.ref h0, .int p0])).length) Slot.unset).toArray = ls at hl ⊢
  have hl : lv_has ls 3 [(0, .ref h0), (1, .int p0)] := hl
  refine lv_aload_n hx hb dL_start_0 rfl (lv_at hl 0 rfl) ?_
  refine lv_iload_n hx hb dL_start_1 rfl (lv_at hl 1 rfl) ?_
  have hPc := hP.sub (ws' := [(h0, .inr (7, [.ref oB, .ref oP])), (oP, .inr (5, [.ref ar, .ref oB, .ref oS, .int 0, .int 2, .int 0, .int 0, .int 0, .int 0])), (oS, .inr (6, [.int 0, .int (-1)])), (ar, .inl (tr, 8, .inl (fun _ => 0)))]) [0, 1, 2, 3] rfl
  have hDc := hD.sub (ws' := [(h0, .inr (7, [.ref oB, .ref oP])), (oP, .inr (5, [.ref ar, .ref oB, .ref oS, .int 0, .int 2, .int 0, .int 0, .int 0, .int 0])), (oS, .inr (6, [.int 0, .int (-1)])), (ar, .inl (tr, 8, .inl (fun _ => 0)))]) [0, 1, 2, 3] (by decide) rfl
  have hKc := hK.sub (tys' := [(tr, .int)]) [0] rfl
  have hFc := va_free (wc := [(h0, .inr (7, [.ref oB, .ref oP])), (oP, .inr (5, [.ref ar, .ref oB, .ref oS, .int 0, .int 2, .int 0, .int 0, .int 0, .int 0])), (oS, .inr (6, [.int 0, .int (-1)])), (ar, .inl (tr, 8, .inl (fun _ => 0)))]) hD hS hA [0, 1, 2, 3] rfl
  refine vx_callv (vx_runV (As := [.int p0]) (rest := []) ⟨hx, hb, hml, hown, hts⟩ (c_start l dC dI h0 oB oP oS ar tr p0 H.size hlt) (cwV 1 hts gL_start_X8_start rfl rfl rfl (by decide +kernel) ⟨Nat.le_of_ble_eq_true rfl, Nat.le_of_ble_eq_true rfl⟩) ⟨fun a U g mk q => by obtain ⟨q0, q1, qP, qK, qD, e0, e1, e2, e3, e4, e5⟩ := q; exact ⟨q0, q1, qP, va_K.moved (u := U) (U := U.calling g mk a) (Vm.Alike.refl U.vm) qK, qD, vx_Zq.moved (u := U) (U := U.calling g mk a) (Vm.Alike.refl U.vm) e0, vx_Zq.moved (u := U) (U := U.calling g mk a) (Vm.Alike.refl U.vm) e1, va_Nw.same (U := U.calling g mk a) rfl rfl e2, va_Nw.same (U := U.calling g mk a) rfl rfl e3, va_Nw.same (U := U.calling g mk a) rfl rfl e4, va_Nw.same (U := U.calling g mk a) rfl rfl e5⟩, va_recv hKc hPc (ci := 7) (q0 := 0) rfl rfl, fun U hU hW => ⟨rfl, by rw [hU], by rw [hU]; exact hPc, va_K.moved hW.alike hKc, hDc.weaken (fun _ _ _ _ => trivial), by rw [hU]; exact vx_Zq.moved hW.alike (vx_Zq.narrow (vx_Zq.kept hZU hS.2.1) hFc), by rw [hU]; exact vx_Zq.moved hW.alike (vx_Zq.narrow (vx_Zq.kept hZN hS.2.1) hFc), va_Nw.warmD hW hd1, va_Nw.warmD hW hd2, va_Nw.warmD hW hd3, va_Nw.warmC hW hcI⟩⟩ rfl rfl hl.1 rfl (lv_room (Nat.le_of_ble_eq_true rfl)) dL_start_2 ⟨Nat.le_of_ble_eq_true rfl, Nat.le_of_ble_eq_true rfl⟩) hS (fun q _ h => hFc q h) hFc (fun q _ h => hFc q h) (fun E9 ce9 q9 u t H1 locs ht hvm hpx hBX hz1 hk1 hS hce hcv hcl => ?_) (fun u2 t H1 locs ht hvm hw hB hz1 hk1 hS => ?_)
  · skip
    try dsimp only at hBX
    obtain ⟨hP, hD⟩ := va_join (wr := []) (w1 := []) hP hD [0, 1, 2, 3] [] rfl rfl (by decide) (by decide) hk1 hFc (fun k q h => by simp at h) ⟨fun i j p q h => by simp at h, fun k q h => by simp at h⟩
    have hK := hK.sub (tys' := []) [] rfl
    rcases hBX with ⟨rfl, _⟩
    · refine vx_catch (own := RL) (name := "java/lang/IllegalArgumentException") hown [] ⟨0, 5, 8, 13⟩ [] (by rw [htb]; rfl) (fun z hz => nomatch hz) (by decide) (by decide) (hts (.classLink RL 13 "java/lang/IllegalArgumentException") (by decide +kernel)) (va_Nw.use rfl hcI) hce hcv hcl ?_
      generalize H1 = H at hP hS ⊢
      have hP : va_P (dC, dI) vwCl [] H := hP
      have hD : va_D A [] := hD
      have hK : va_K (dC, dI) vwCl [] s := hK
      refine W.widen (k := 1) (n := 6) (Nat.le_of_ble_eq_true rfl) (Nat.le_of_ble_eq_true rfl) ?_
      refine lv_astore_n (lv' := [(2, .ref q9), (0, .ref h0), (1, .int p0)]) hx hb dL_start_8 rfl hl (by decide) rfl (fun ls hl => ?_)
      refine lv_iconst (v := 1) hx hb dL_start_9 (by decide) ?_
      have hP9 := hP.sub (ws' := []) [] rfl
      have hD9 := hD.sub (ws' := []) [] (by decide) rfl
      have hK9 := hK.sub (tys' := []) [] rfl
      refine vx_ret ?_
      exact W.iret (v := 1) hx hb hr (fun t ht hW => ⟨⟨1, (), rfl, (by first | (exact Or.inl ⟨rfl, by omega⟩) | (exact Or.inr ⟨rfl, by omega⟩)), by rw [ht]; exact hP9, va_K.moved hW.alike hK9, hD9⟩, hS.F ht⟩) hS.2.2 dL_start_10
  · skip
    obtain ⟨hP1, hK1, hD1⟩ := hB
    rw [ht] at hP1
    have hK1 := va_K.moved hvm.symm hK1
    try dsimp only at hw
    obtain ⟨hP, hD⟩ := va_join (wr := []) (w1 := []) hP hD [0, 1, 2, 3] [] rfl rfl (by decide) (by decide) hk1 hFc hP1 hD1
    have hK := (hK.sub (tys' := []) [] rfl).app hK1
    generalize H1 = H at hP hS ⊢
    have hP : va_P (dC, dI) vwCl [] H := hP
    have hD : va_D A [] := hD
    have hK : va_K (dC, dI) vwCl [] s := hK
    refine W.widen (k := 1) (n := 6) (Nat.le_of_ble_eq_true rfl) (Nat.le_of_ble_eq_true rfl) ?_
    refine lv_goto (tgt := 11) hx hb dL_start_5 (by decide) ?_
    refine lv_iconst (v := 0) hx hb dL_start_11 (by decide) ?_
    have hP9 := hP.sub (ws' := []) [] rfl
    have hD9 := hD.sub (ws' := []) [] (by decide) rfl
    have hK9 := hK.sub (tys' := []) [] rfl
    refine vx_ret ?_
    exact W.iret (v := 0) hx hb hr (fun t ht hW => ⟨⟨0, (), rfl, (by first | (exact Or.inl ⟨rfl, by omega⟩) | (exact Or.inr ⟨rfl, by omega⟩)), by rw [ht]; exact hP9, va_K.moved hW.alike hK9, hD9⟩, hS.F ht⟩) hS.2.2 dL_start_12
set_option maxHeartbeats 4000000 in
set_option maxRecDepth 100000 in
theorem c_L_run (l : Launch) (dC : Nat → ClassId) (dI : Nat → Nat → Nat) (h0 : Nat) (oB : Nat) (oP : Nat) (oS : Nat) (ar : Nat) (p0 : Int32) (ho : Nat) (to : ClassId) (fo : Nat → Int64) (sz : Nat) (hlt : l.stackTraces = false) : vx_Met l yL_run wsL_run ({ frames := 7, cells := 1, slots := 6, locals := 103 } : Room) (va_Pc [.ref h0, .int p0, .ref ho] (fun U => U.heap.size = sz ∧ va_P (dC, dI) vwCl [(h0, .inr (7, [.ref oB, .ref oP])), (oP, .inr (5, [.ref ar, .ref oB, .ref oS, .int 0, .int 2, .int 0, .int 0, .int 0, .int 0])), (ho, .inl (to, 1, .inr (.inl fo)))] U.heap ∧ va_K (dC, dI) vwCl [(to, .long)] U ∧ va_D (fun _ => True) [(h0, .inr (7, [.ref oB, .ref oP])), (oP, .inr (5, [.ref ar, .ref oB, .ref oS, .int 0, .int 2, .int 0, .int 0, .int 0, .int 0])), (ho, .inl (to, 1, .inr (.inl fo)))] ∧ vx_Zq Bundle.tN "UNASSIGNED_STACK" Bundle.steD (va_A [(h0, .inr (7, [.ref oB, .ref oP])), (oP, .inr (5, [.ref ar, .ref oB, .ref oS, .int 0, .int 2, .int 0, .int 0, .int 0, .int 0])), (ho, .inl (to, 1, .inr (.inl fo)))] sz) U U.heap ∧ vx_Zq Bundle.tN "SUPPRESSED_SENTINEL" Bundle.listD (va_A [(h0, .inr (7, [.ref oB, .ref oP])), (oP, .inr (5, [.ref ar, .ref oB, .ref oS, .int 0, .int 2, .int 0, .int 0, .int 0, .int 0])), (ho, .inl (to, 1, .inr (.inl fo)))] sz) U U.heap ∧ va_Nw (.declares (Bundle.init0 "java/lang/RuntimeException")) U ∧ va_Nw (.declares (Bundle.init0 "java/lang/Exception")) U ∧ va_Nw (.declares (Bundle.init0 Bundle.tN)) U ∧ va_Nw (.castable "java/lang/IllegalArgumentException" "java/lang/IllegalArgumentException") U ∧ va_Nw (.castable "java/lang/IllegalStateException" "java/lang/IllegalStateException") U ∧ va_Nc "java/lang/IllegalStateException" "java/lang/IllegalArgumentException" U)) (va_Qi (fun (r : Int32) (u : (Nat → Int64)) => (r = 1 ∧ ¬ (1 ≤ p0.toInt ∧ p0.toInt ≤ 40)) ∨ (r = 2 ∧ (1 ≤ p0.toInt ∧ p0.toInt ≤ 40))) (fun (u : (Nat → Int64)) (t : State) => va_P (dC, dI) vwCl [(ho, .inl (to, 1, .inr (.inl u)))] t.heap ∧ va_K (dC, dI) vwCl [(to, .long)] t ∧ va_D (va_A [(h0, .inr (7, [.ref oB, .ref oP])), (oP, .inr (5, [.ref ar, .ref oB, .ref oS, .int 0, .int 2, .int 0, .int 0, .int 0, .int 0])), (ho, .inl (to, 1, .inr (.inl fo)))] sz) [(ho, .inl (to, 1, .inr (.inl u)))]) (va_A [(h0, .inr (7, [.ref oB, .ref oP])), (oP, .inr (5, [.ref ar, .ref oB, .ref oS, .int 0, .int 2, .int 0, .int 0, .int 0, .int 0])), (ho, .inl (to, 1, .inr (.inl fo)))] sz)) (vx_X (fun _ : Unit => True) (fun (E : String) (_ : Unit) (_ : State) => False) (va_A [(h0, .inr (7, [.ref oB, .ref oP])), (oP, .inr (5, [.ref ar, .ref oB, .ref oS, .int 0, .int 2, .int 0, .int 0, .int 0, .int 0])), (ho, .inl (to, 1, .inr (.inl fo)))] sz)) 1 6 (va_A [(h0, .inr (7, [.ref oB, .ref oP])), (oP, .inr (5, [.ref ar, .ref oB, .ref oS, .int 0, .int 2, .int 0, .int 0, .int 0, .int 0])), (ho, .inl (to, 1, .inr (.inl fo)))] sz) := by
  refine vx_ofWH (cc := cL_run) (maxL := 4) (ret := (some .int)) (by decide) rfl ?_
  intro p e s m args below meth c s₁ B hml hv
  obtain ⟨rfl, hsz, hP, hK, hD0, hZU, hZN, hd1, hd2, hd3, hcI, hcS, hnc⟩ := hv
  have hx := B.exec
  have hb := B.bytes
  have hr := B.returns
  have hts := atoms_spec (ws := wsL_run) B.pre
  have hown : s.vm.findClass RL = some m.cls := findClass_of_methodNamed B.named
  have hlocks := B.notSynchronized
  have htb := vx_table (x := yL_run) (y := yL_run) (bytes := cL_run) (maxL' := 4) (ret' := (some .int)) (hh := [(0, 9, 12, 13), (0, 9, 15, 32)]) B (hts _ List.mem_cons_self)
  subst hsz
  have hD := hD0.self (sz := s.heap.size)
  generalize hAe : va_A [(h0, .inr (7, [.ref oB, .ref oP])), (oP, .inr (5, [.ref ar, .ref oB, .ref oS, .int 0, .int 2, .int 0, .int 0, .int 0, .int 0])), (ho, .inl (to, 1, .inr (.inl fo)))] s.heap.size = A at hD hZU hZN ⊢
  have hA : ∀ q : Nat, s.heap.size ≤ q → A q := fun q h => by rw [← hAe]; exact Or.inr h
  have hS0 : ∀ G : Heap, s.heap = G → va_S A s.heap G [] := fun G h => by subst h; exact va_S.rf
  generalize hHe : s.heap = H at hP ⊢
  have hS := hS0 H hHe
  have hP : va_P (dC, dI) vwCl [(h0, .inr (7, [.ref oB, .ref oP])), (oP, .inr (5, [.ref ar, .ref oB, .ref oS, .int 0, .int 2, .int 0, .int 0, .int 0, .int 0])), (ho, .inl (to, 1, .inr (.inl fo)))] H := hP
  have hD : va_D A [(h0, .inr (7, [.ref oB, .ref oP])), (oP, .inr (5, [.ref ar, .ref oB, .ref oS, .int 0, .int 2, .int 0, .int 0, .int 0, .int 0])), (ho, .inl (to, 1, .inr (.inl fo)))] := hD
  have hK : va_K (dC, dI) vwCl [(to, .long)] s := hK
  have hl := lv_entry ([.ref h0, .int p0, .ref ho]) (n := 4) (Nat.le_of_ble_eq_true rfl)
  rw [lg_entry_eq]
  generalize (lg_sl ([.ref h0, .int p0, .ref ho]) ++ List.replicate (4 - (lg_sl ([.ref h0, .int p0, .ref ho])).length) Slot.unset).toArray = ls at hl ⊢
  have hl : lv_has ls 4 [(0, .ref h0), (1, .int p0), (2, .ref ho)] := hl
  refine lv_aload_n hx hb dL_run_0 rfl (lv_at hl 2 rfl) ?_
  refine lv_iconst (v := 0) hx hb dL_run_1 (by decide) ?_
  refine lv_aload_n hx hb dL_run_2 rfl (lv_at hl 0 rfl) ?_
  refine lv_iload_n hx hb dL_run_3 rfl (lv_at hl 1 rfl) ?_
  have hPc := hP.sub (ws' := [(h0, .inr (7, [.ref oB, .ref oP])), (oP, .inr (5, [.ref ar, .ref oB, .ref oS, .int 0, .int 2, .int 0, .int 0, .int 0, .int 0]))]) [0, 1] rfl
  have hDc := hD.sub (ws' := [(h0, .inr (7, [.ref oB, .ref oP])), (oP, .inr (5, [.ref ar, .ref oB, .ref oS, .int 0, .int 2, .int 0, .int 0, .int 0, .int 0]))]) [0, 1] (by decide) rfl
  have hKc := hK.sub (tys' := []) [] rfl
  have hFc := va_free (wc := [(h0, .inr (7, [.ref oB, .ref oP])), (oP, .inr (5, [.ref ar, .ref oB, .ref oS, .int 0, .int 2, .int 0, .int 0, .int 0, .int 0]))]) hD hS hA [0, 1] rfl
  refine vx_calli (vx_runV (As := [.int p0]) (rest := [.int 0, .ref ho]) ⟨hx, hb, hml, hown, hts⟩ (c_run l dC dI h0 oB oP oS ar p0 H.size hlt) (cwV 1 hts gL_run_X8_run rfl rfl rfl (by decide +kernel) ⟨Nat.le_of_ble_eq_true rfl, Nat.le_of_ble_eq_true rfl⟩) ⟨fun a U g mk q => by obtain ⟨q0, q1, qP, qK, qD, e0, e1, e2, e3, e4, e5, e6⟩ := q; exact ⟨q0, q1, qP, va_K.moved (u := U) (U := U.calling g mk a) (Vm.Alike.refl U.vm) qK, qD, vx_Zq.moved (u := U) (U := U.calling g mk a) (Vm.Alike.refl U.vm) e0, vx_Zq.moved (u := U) (U := U.calling g mk a) (Vm.Alike.refl U.vm) e1, va_Nw.same (U := U.calling g mk a) rfl rfl e2, va_Nw.same (U := U.calling g mk a) rfl rfl e3, va_Nw.same (U := U.calling g mk a) rfl rfl e4, va_Nw.same (U := U.calling g mk a) rfl rfl e5, va_Nw.same (U := U.calling g mk a) rfl rfl e6⟩, va_recv hKc hPc (ci := 7) (q0 := 0) rfl rfl, fun U hU hW => ⟨rfl, by rw [hU], by rw [hU]; exact hPc, va_K.moved hW.alike hKc, hDc.weaken (fun _ _ _ _ => trivial), by rw [hU]; exact vx_Zq.moved hW.alike (vx_Zq.narrow (vx_Zq.kept hZU hS.2.1) hFc), by rw [hU]; exact vx_Zq.moved hW.alike (vx_Zq.narrow (vx_Zq.kept hZN hS.2.1) hFc), va_Nw.warmD hW hd1, va_Nw.warmD hW hd2, va_Nw.warmD hW hd3, va_Nw.warmC hW hcI, va_Nw.warmC hW hcS⟩⟩ rfl rfl hl.1 rfl (lv_room (Nat.le_of_ble_eq_true rfl)) dL_run_4 ⟨Nat.le_of_ble_eq_true rfl, Nat.le_of_ble_eq_true rfl⟩) hS (fun q _ h => hFc q h) hFc (fun q _ h => hFc q h) (fun E9 ce9 q9 u t H1 locs ht hvm hpx hBX hz1 hk1 hS hce hcv hcl => ?_) (fun r1 u2 t H1 locs ht hvm hw hB hz1 hk1 hS => ?_)
  · skip
    try dsimp only at hBX
    obtain ⟨hP, hD⟩ := va_join (wr := [(ho, .inl (to, 1, .inr (.inl fo)))]) (w1 := []) hP hD [0, 1] [2] rfl rfl (by decide) (by decide) hk1 hFc (fun k q h => by simp at h) ⟨fun i j p q h => by simp at h, fun k q h => by simp at h⟩
    have hK := hK.sub (tys' := [(to, .long)]) [0] rfl
    rcases hBX with ⟨rfl, _⟩ | ⟨rfl, _, _⟩
    · refine vx_catch (own := RL) (name := "java/lang/IllegalArgumentException") hown [] ⟨0, 9, 12, 13⟩ [⟨0, 9, 15, 32⟩] (by rw [htb]; rfl) (fun z hz => nomatch hz) (by decide) (by decide) (hts (.classLink RL 13 "java/lang/IllegalArgumentException") (by decide +kernel)) (va_Nw.use rfl hcI) hce hcv hcl ?_
      generalize H1 = H at hP hS ⊢
      have hP : va_P (dC, dI) vwCl [(ho, .inl (to, 1, .inr (.inl fo)))] H := hP
      have hD : va_D A [(ho, .inl (to, 1, .inr (.inl fo)))] := hD
      have hK : va_K (dC, dI) vwCl [(to, .long)] s := hK
      refine W.widen (k := 1) (n := 6) (Nat.le_of_ble_eq_true rfl) (Nat.le_of_ble_eq_true rfl) ?_
      refine lv_astore_n (lv' := [(3, .ref q9), (0, .ref h0), (1, .int p0), (2, .ref ho)]) hx hb dL_run_12 rfl hl (by decide) rfl (fun ls hl => ?_)
      refine lv_iconst (v := 1) hx hb dL_run_13 (by decide) ?_
      have hP9 := hP.sub (ws' := [(ho, .inl (to, 1, .inr (.inl fo)))]) [0] rfl
      have hD9 := hD.sub (ws' := [(ho, .inl (to, 1, .inr (.inl fo)))]) [0] (by decide) rfl
      have hK9 := hK.sub (tys' := [(to, .long)]) [0] rfl
      refine vx_ret ?_
      exact W.iret (v := 1) hx hb hr (fun t ht hW => ⟨⟨1, (fo), rfl, (by first | (exact Or.inl ⟨rfl, by omega⟩) | (exact Or.inr ⟨rfl, by omega⟩)), by rw [ht]; exact hP9, va_K.moved hW.alike hK9, hD9⟩, hS.F ht⟩) hS.2.2 dL_run_14
    · refine vx_catch (own := RL) (name := "java/lang/IllegalStateException") hown [⟨0, 9, 12, 13⟩] ⟨0, 9, 15, 32⟩ [] (by rw [htb]; rfl) (fun z hz => by cases List.mem_singleton.mp hz; exact Or.inr ⟨by decide, _, (hts (.classLink RL 13 "java/lang/IllegalArgumentException") (by decide +kernel)), hnc⟩) (by decide) (by decide) (hts (.classLink RL 32 "java/lang/IllegalStateException") (by decide +kernel)) (va_Nw.use rfl hcS) hce hcv hcl ?_
      generalize H1 = H at hP hS ⊢
      have hP : va_P (dC, dI) vwCl [(ho, .inl (to, 1, .inr (.inl fo)))] H := hP
      have hD : va_D A [(ho, .inl (to, 1, .inr (.inl fo)))] := hD
      have hK : va_K (dC, dI) vwCl [(to, .long)] s := hK
      refine W.widen (k := 1) (n := 6) (Nat.le_of_ble_eq_true rfl) (Nat.le_of_ble_eq_true rfl) ?_
      refine lv_astore_n (lv' := [(3, .ref q9), (0, .ref h0), (1, .int p0), (2, .ref ho)]) hx hb dL_run_15 rfl hl (by decide) rfl (fun ls hl => ?_)
      refine lv_iconst (v := 2) hx hb dL_run_16 (by decide) ?_
      have hP9 := hP.sub (ws' := [(ho, .inl (to, 1, .inr (.inl fo)))]) [0] rfl
      have hD9 := hD.sub (ws' := [(ho, .inl (to, 1, .inr (.inl fo)))]) [0] (by decide) rfl
      have hK9 := hK.sub (tys' := [(to, .long)]) [0] rfl
      refine vx_ret ?_
      exact W.iret (v := 2) hx hb hr (fun t ht hW => ⟨⟨2, (fo), rfl, (by first | (exact Or.inl ⟨rfl, by omega⟩) | (exact Or.inr ⟨rfl, by omega⟩)), by rw [ht]; exact hP9, va_K.moved hW.alike hK9, hD9⟩, hS.F ht⟩) hS.2.2 dL_run_17
  · skip
    exact False.elim hw
set_option maxHeartbeats 4000000 in
set_option maxRecDepth 100000 in
theorem c_L_key (l : Launch) (dC : Nat → ClassId) (dI : Nat → Nat → Nat) (h0 : Nat) (oB : Nat) (oP : Nat) (am : Nat) (oM : Nat) (oS : Nat) (oK : Nat) (oL : Nat) (oD : Nat) (p0 : Int32) (sz : Nat) (hlt : l.stackTraces = false) : vx_Met l yL_key wsL_key ({ frames := 7, cells := 1, slots := 6, locals := 102 } : Room) (va_Pc [.ref h0, .int p0] (fun U => U.heap.size = sz ∧ va_P (dC, dI) vwCl [(h0, .inr (7, [.ref oB, .ref oP])), (oB, .inr (0, [.ref am, .ref oM, .ref oS, .ref oK, .ref oL, .ref oD])), (oK, .inr (2, [.int 0, .int 0, .int 0]))] U.heap ∧ va_K (dC, dI) vwCl [] U ∧ va_D (fun _ => True) [(h0, .inr (7, [.ref oB, .ref oP])), (oB, .inr (0, [.ref am, .ref oM, .ref oS, .ref oK, .ref oL, .ref oD])), (oK, .inr (2, [.int 0, .int 0, .int 0]))] ∧ vx_Zq Bundle.tN "UNASSIGNED_STACK" Bundle.steD (va_A [(h0, .inr (7, [.ref oB, .ref oP])), (oB, .inr (0, [.ref am, .ref oM, .ref oS, .ref oK, .ref oL, .ref oD])), (oK, .inr (2, [.int 0, .int 0, .int 0]))] sz) U U.heap ∧ vx_Zq Bundle.tN "SUPPRESSED_SENTINEL" Bundle.listD (va_A [(h0, .inr (7, [.ref oB, .ref oP])), (oB, .inr (0, [.ref am, .ref oM, .ref oS, .ref oK, .ref oL, .ref oD])), (oK, .inr (2, [.int 0, .int 0, .int 0]))] sz) U U.heap ∧ va_Nw (.declares (Bundle.init0 "java/lang/RuntimeException")) U ∧ va_Nw (.declares (Bundle.init0 "java/lang/Exception")) U ∧ va_Nw (.declares (Bundle.init0 Bundle.tN)) U ∧ va_Nw (.castable "java/lang/IllegalArgumentException" "java/lang/IllegalArgumentException") U)) (va_Qi (fun (r : Int32) (u : Unit) => (r = 0 ∧ (0 ≤ p0.toInt ∧ p0.toInt ≤ 255)) ∨ (r = 1 ∧ ¬ (0 ≤ p0.toInt ∧ p0.toInt ≤ 255))) (fun (u : Unit) (t : State) => va_P (dC, dI) vwCl [] t.heap ∧ va_K (dC, dI) vwCl [] t ∧ va_D (va_A [(h0, .inr (7, [.ref oB, .ref oP])), (oB, .inr (0, [.ref am, .ref oM, .ref oS, .ref oK, .ref oL, .ref oD])), (oK, .inr (2, [.int 0, .int 0, .int 0]))] sz) []) (va_A [(h0, .inr (7, [.ref oB, .ref oP])), (oB, .inr (0, [.ref am, .ref oM, .ref oS, .ref oK, .ref oL, .ref oD])), (oK, .inr (2, [.int 0, .int 0, .int 0]))] sz)) (vx_X (fun _ : Unit => True) (fun (E : String) (_ : Unit) (_ : State) => False) (va_A [(h0, .inr (7, [.ref oB, .ref oP])), (oB, .inr (0, [.ref am, .ref oM, .ref oS, .ref oK, .ref oL, .ref oD])), (oK, .inr (2, [.int 0, .int 0, .int 0]))] sz)) 1 6 (va_A [(h0, .inr (7, [.ref oB, .ref oP])), (oB, .inr (0, [.ref am, .ref oM, .ref oS, .ref oK, .ref oL, .ref oD])), (oK, .inr (2, [.int 0, .int 0, .int 0]))] sz) := by
  refine vx_ofWH (cc := cL_key) (maxL := 3) (ret := (some .int)) (by decide) rfl ?_
  intro p e s m args below meth c s₁ B hml hv
  obtain ⟨rfl, hsz, hP, hK, hD0, hZU, hZN, hd1, hd2, hd3, hcI⟩ := hv
  have hx := B.exec
  have hb := B.bytes
  have hr := B.returns
  have hts := atoms_spec (ws := wsL_key) B.pre
  have hown : s.vm.findClass RL = some m.cls := findClass_of_methodNamed B.named
  have hlocks := B.notSynchronized
  have htb := vx_table (x := yL_key) (y := yL_key) (bytes := cL_key) (maxL' := 3) (ret' := (some .int)) (hh := [(0, 5, 8, 13)]) B (hts _ List.mem_cons_self)
  subst hsz
  have hD := hD0.self (sz := s.heap.size)
  generalize hAe : va_A [(h0, .inr (7, [.ref oB, .ref oP])), (oB, .inr (0, [.ref am, .ref oM, .ref oS, .ref oK, .ref oL, .ref oD])), (oK, .inr (2, [.int 0, .int 0, .int 0]))] s.heap.size = A at hD hZU hZN ⊢
  have hA : ∀ q : Nat, s.heap.size ≤ q → A q := fun q h => by rw [← hAe]; exact Or.inr h
  have hS0 : ∀ G : Heap, s.heap = G → va_S A s.heap G [] := fun G h => by subst h; exact va_S.rf
  generalize hHe : s.heap = H at hP ⊢
  have hS := hS0 H hHe
  have hP : va_P (dC, dI) vwCl [(h0, .inr (7, [.ref oB, .ref oP])), (oB, .inr (0, [.ref am, .ref oM, .ref oS, .ref oK, .ref oL, .ref oD])), (oK, .inr (2, [.int 0, .int 0, .int 0]))] H := hP
  have hD : va_D A [(h0, .inr (7, [.ref oB, .ref oP])), (oB, .inr (0, [.ref am, .ref oM, .ref oS, .ref oK, .ref oL, .ref oD])), (oK, .inr (2, [.int 0, .int 0, .int 0]))] := hD
  have hK : va_K (dC, dI) vwCl [] s := hK
  have hl := lv_entry ([.ref h0, .int p0]) (n := 3) (Nat.le_of_ble_eq_true rfl)
  rw [lg_entry_eq]
  generalize (lg_sl ([.ref h0, .int p0]) ++ List.replicate (3 - (lg_sl ([.ref h0, .int p0])).length) Slot.unset).toArray = ls at hl ⊢
  have hl : lv_has ls 3 [(0, .ref h0), (1, .int p0)] := hl
  refine lv_aload_n hx hb dL_key_0 rfl (lv_at hl 0 rfl) ?_
  refine lv_iload_n hx hb dL_key_1 rfl (lv_at hl 1 rfl) ?_
  have hPc := hP.sub (ws' := [(h0, .inr (7, [.ref oB, .ref oP])), (oB, .inr (0, [.ref am, .ref oM, .ref oS, .ref oK, .ref oL, .ref oD])), (oK, .inr (2, [.int 0, .int 0, .int 0]))]) [0, 1, 2] rfl
  have hDc := hD.sub (ws' := [(h0, .inr (7, [.ref oB, .ref oP])), (oB, .inr (0, [.ref am, .ref oM, .ref oS, .ref oK, .ref oL, .ref oD])), (oK, .inr (2, [.int 0, .int 0, .int 0]))]) [0, 1, 2] (by decide) rfl
  have hKc := hK.sub (tys' := []) [] rfl
  have hFc := va_free (wc := [(h0, .inr (7, [.ref oB, .ref oP])), (oB, .inr (0, [.ref am, .ref oM, .ref oS, .ref oK, .ref oL, .ref oD])), (oK, .inr (2, [.int 0, .int 0, .int 0]))]) hD hS hA [0, 1, 2] rfl
  refine vx_callv (vx_runV (As := [.int p0]) (rest := []) ⟨hx, hb, hml, hown, hts⟩ (c_key l dC dI h0 oB oP am oM oS oK oL oD p0 H.size hlt) (cwV 1 hts gL_key_X8_key rfl rfl rfl (by decide +kernel) ⟨Nat.le_of_ble_eq_true rfl, Nat.le_of_ble_eq_true rfl⟩) ⟨fun a U g mk q => by obtain ⟨q0, q1, qP, qK, qD, e0, e1, e2, e3, e4, e5⟩ := q; exact ⟨q0, q1, qP, va_K.moved (u := U) (U := U.calling g mk a) (Vm.Alike.refl U.vm) qK, qD, vx_Zq.moved (u := U) (U := U.calling g mk a) (Vm.Alike.refl U.vm) e0, vx_Zq.moved (u := U) (U := U.calling g mk a) (Vm.Alike.refl U.vm) e1, va_Nw.same (U := U.calling g mk a) rfl rfl e2, va_Nw.same (U := U.calling g mk a) rfl rfl e3, va_Nw.same (U := U.calling g mk a) rfl rfl e4, va_Nw.same (U := U.calling g mk a) rfl rfl e5⟩, va_recv hKc hPc (ci := 7) (q0 := 0) rfl rfl, fun U hU hW => ⟨rfl, by rw [hU], by rw [hU]; exact hPc, va_K.moved hW.alike hKc, hDc.weaken (fun _ _ _ _ => trivial), by rw [hU]; exact vx_Zq.moved hW.alike (vx_Zq.narrow (vx_Zq.kept hZU hS.2.1) hFc), by rw [hU]; exact vx_Zq.moved hW.alike (vx_Zq.narrow (vx_Zq.kept hZN hS.2.1) hFc), va_Nw.warmD hW hd1, va_Nw.warmD hW hd2, va_Nw.warmD hW hd3, va_Nw.warmC hW hcI⟩⟩ rfl rfl hl.1 rfl (lv_room (Nat.le_of_ble_eq_true rfl)) dL_key_2 ⟨Nat.le_of_ble_eq_true rfl, Nat.le_of_ble_eq_true rfl⟩) hS (fun q _ h => hFc q h) hFc (fun q _ h => hFc q h) (fun E9 ce9 q9 u t H1 locs ht hvm hpx hBX hz1 hk1 hS hce hcv hcl => ?_) (fun u2 t H1 locs ht hvm hw hB hz1 hk1 hS => ?_)
  · skip
    try dsimp only at hBX
    obtain ⟨hP, hD⟩ := va_join (wr := []) (w1 := []) hP hD [0, 1, 2] [] rfl rfl (by decide) (by decide) hk1 hFc (fun k q h => by simp at h) ⟨fun i j p q h => by simp at h, fun k q h => by simp at h⟩
    have hK := hK.sub (tys' := []) [] rfl
    rcases hBX with ⟨rfl, _⟩
    · refine vx_catch (own := RL) (name := "java/lang/IllegalArgumentException") hown [] ⟨0, 5, 8, 13⟩ [] (by rw [htb]; rfl) (fun z hz => nomatch hz) (by decide) (by decide) (hts (.classLink RL 13 "java/lang/IllegalArgumentException") (by decide +kernel)) (va_Nw.use rfl hcI) hce hcv hcl ?_
      generalize H1 = H at hP hS ⊢
      have hP : va_P (dC, dI) vwCl [] H := hP
      have hD : va_D A [] := hD
      have hK : va_K (dC, dI) vwCl [] s := hK
      refine W.widen (k := 1) (n := 6) (Nat.le_of_ble_eq_true rfl) (Nat.le_of_ble_eq_true rfl) ?_
      refine lv_astore_n (lv' := [(2, .ref q9), (0, .ref h0), (1, .int p0)]) hx hb dL_key_8 rfl hl (by decide) rfl (fun ls hl => ?_)
      refine lv_iconst (v := 1) hx hb dL_key_9 (by decide) ?_
      have hP9 := hP.sub (ws' := []) [] rfl
      have hD9 := hD.sub (ws' := []) [] (by decide) rfl
      have hK9 := hK.sub (tys' := []) [] rfl
      refine vx_ret ?_
      exact W.iret (v := 1) hx hb hr (fun t ht hW => ⟨⟨1, (), rfl, (by first | (exact Or.inl ⟨rfl, by omega⟩) | (exact Or.inr ⟨rfl, by omega⟩)), by rw [ht]; exact hP9, va_K.moved hW.alike hK9, hD9⟩, hS.F ht⟩) hS.2.2 dL_key_10
  · skip
    obtain ⟨hP1, hK1, hD1⟩ := hB
    rw [ht] at hP1
    have hK1 := va_K.moved hvm.symm hK1
    try dsimp only at hw
    obtain ⟨hP, hD⟩ := va_join (wr := []) (w1 := []) hP hD [0, 1, 2] [] rfl rfl (by decide) (by decide) hk1 hFc hP1 hD1
    have hK := (hK.sub (tys' := []) [] rfl).app hK1
    generalize H1 = H at hP hS ⊢
    have hP : va_P (dC, dI) vwCl [] H := hP
    have hD : va_D A [] := hD
    have hK : va_K (dC, dI) vwCl [] s := hK
    refine W.widen (k := 1) (n := 6) (Nat.le_of_ble_eq_true rfl) (Nat.le_of_ble_eq_true rfl) ?_
    refine lv_goto (tgt := 11) hx hb dL_key_5 (by decide) ?_
    refine lv_iconst (v := 0) hx hb dL_key_11 (by decide) ?_
    have hP9 := hP.sub (ws' := []) [] rfl
    have hD9 := hD.sub (ws' := []) [] (by decide) rfl
    have hK9 := hK.sub (tys' := []) [] rfl
    refine vx_ret ?_
    exact W.iret (v := 0) hx hb hr (fun t ht hW => ⟨⟨0, (), rfl, (by first | (exact Or.inl ⟨rfl, by omega⟩) | (exact Or.inr ⟨rfl, by omega⟩)), by rw [ht]; exact hP9, va_K.moved hW.alike hK9, hD9⟩, hS.F ht⟩) hS.2.2 dL_key_12
set_option maxHeartbeats 4000000 in
set_option maxRecDepth 100000 in
theorem c_L_printed (l : Launch) (dC : Nat → ClassId) (dI : Nat → Nat → Nat) (h0 : Nat) (oB : Nat) (oP : Nat) (am : Nat) (oM : Nat) (oS : Nat) (oK : Nat) (oL : Nat) (oD : Nat) (ap : Nat) (tp : ClassId) (p0 : Int32) (ho : Nat) (to : ClassId) (fo : Nat → Int64) (sz : Nat) (hlt : l.stackTraces = false) : vx_Met l yL_printed wsL_printed ({ frames := 7, cells := 1, slots := 6, locals := 103 } : Room) (va_Pc [.ref h0, .int p0, .ref ho] (fun U => U.heap.size = sz ∧ va_P (dC, dI) vwCl [(h0, .inr (7, [.ref oB, .ref oP])), (oB, .inr (0, [.ref am, .ref oM, .ref oS, .ref oK, .ref oL, .ref oD])), (oL, .inr (4, [.int 128, .int 0, .ref ap, .int 0, .int 0, .int 0, .int 0])), (ap, .inl (tp, 32, .inl (fun _ => 0))), (ho, .inl (to, 1, .inr (.inl fo)))] U.heap ∧ va_K (dC, dI) vwCl [(tp, .int), (to, .long)] U ∧ va_D (fun _ => True) [(h0, .inr (7, [.ref oB, .ref oP])), (oB, .inr (0, [.ref am, .ref oM, .ref oS, .ref oK, .ref oL, .ref oD])), (oL, .inr (4, [.int 128, .int 0, .ref ap, .int 0, .int 0, .int 0, .int 0])), (ap, .inl (tp, 32, .inl (fun _ => 0))), (ho, .inl (to, 1, .inr (.inl fo)))] ∧ vx_Zq Bundle.tN "UNASSIGNED_STACK" Bundle.steD (va_A [(h0, .inr (7, [.ref oB, .ref oP])), (oB, .inr (0, [.ref am, .ref oM, .ref oS, .ref oK, .ref oL, .ref oD])), (oL, .inr (4, [.int 128, .int 0, .ref ap, .int 0, .int 0, .int 0, .int 0])), (ap, .inl (tp, 32, .inl (fun _ => 0))), (ho, .inl (to, 1, .inr (.inl fo)))] sz) U U.heap ∧ vx_Zq Bundle.tN "SUPPRESSED_SENTINEL" Bundle.listD (va_A [(h0, .inr (7, [.ref oB, .ref oP])), (oB, .inr (0, [.ref am, .ref oM, .ref oS, .ref oK, .ref oL, .ref oD])), (oL, .inr (4, [.int 128, .int 0, .ref ap, .int 0, .int 0, .int 0, .int 0])), (ap, .inl (tp, 32, .inl (fun _ => 0))), (ho, .inl (to, 1, .inr (.inl fo)))] sz) U U.heap ∧ va_Nw (.declares (Bundle.init0 "java/lang/RuntimeException")) U ∧ va_Nw (.declares (Bundle.init0 "java/lang/Exception")) U ∧ va_Nw (.declares (Bundle.init0 Bundle.tN)) U ∧ va_Nw (.castable "java/lang/IndexOutOfBoundsException" "java/lang/IndexOutOfBoundsException") U)) (va_Qi (fun (r : Int32) (u : (Nat → Int64)) => (r = 0 ∧ (p0.toInt = -1) ∧ u (0 : Int32).toNatClampNeg = 0) ∨ (r = 1 ∧ ¬ (p0.toInt = -1))) (fun (u : (Nat → Int64)) (t : State) => va_P (dC, dI) vwCl [(ho, .inl (to, 1, .inr (.inl u)))] t.heap ∧ va_K (dC, dI) vwCl [(to, .long)] t ∧ va_D (va_A [(h0, .inr (7, [.ref oB, .ref oP])), (oB, .inr (0, [.ref am, .ref oM, .ref oS, .ref oK, .ref oL, .ref oD])), (oL, .inr (4, [.int 128, .int 0, .ref ap, .int 0, .int 0, .int 0, .int 0])), (ap, .inl (tp, 32, .inl (fun _ => 0))), (ho, .inl (to, 1, .inr (.inl fo)))] sz) [(ho, .inl (to, 1, .inr (.inl u)))]) (va_A [(h0, .inr (7, [.ref oB, .ref oP])), (oB, .inr (0, [.ref am, .ref oM, .ref oS, .ref oK, .ref oL, .ref oD])), (oL, .inr (4, [.int 128, .int 0, .ref ap, .int 0, .int 0, .int 0, .int 0])), (ap, .inl (tp, 32, .inl (fun _ => 0))), (ho, .inl (to, 1, .inr (.inl fo)))] sz)) (vx_X (fun _ : Unit => True) (fun (E : String) (_ : Unit) (_ : State) => False) (va_A [(h0, .inr (7, [.ref oB, .ref oP])), (oB, .inr (0, [.ref am, .ref oM, .ref oS, .ref oK, .ref oL, .ref oD])), (oL, .inr (4, [.int 128, .int 0, .ref ap, .int 0, .int 0, .int 0, .int 0])), (ap, .inl (tp, 32, .inl (fun _ => 0))), (ho, .inl (to, 1, .inr (.inl fo)))] sz)) 1 6 (va_A [(h0, .inr (7, [.ref oB, .ref oP])), (oB, .inr (0, [.ref am, .ref oM, .ref oS, .ref oK, .ref oL, .ref oD])), (oL, .inr (4, [.int 128, .int 0, .ref ap, .int 0, .int 0, .int 0, .int 0])), (ap, .inl (tp, 32, .inl (fun _ => 0))), (ho, .inl (to, 1, .inr (.inl fo)))] sz) := by
  refine vx_ofWH (cc := cL_printed) (maxL := 4) (ret := (some .int)) (by decide) rfl ?_
  intro p e s m args below meth c s₁ B hml hv
  obtain ⟨rfl, hsz, hP, hK, hD0, hZU, hZN, hd1, hd2, hd3, hcB⟩ := hv
  have hx := B.exec
  have hb := B.bytes
  have hr := B.returns
  have hts := atoms_spec (ws := wsL_printed) B.pre
  have hown : s.vm.findClass RL = some m.cls := findClass_of_methodNamed B.named
  have hlocks := B.notSynchronized
  have htb := vx_table (x := yL_printed) (y := yL_printed) (bytes := cL_printed) (maxL' := 4) (ret' := (some .int)) (hh := [(0, 9, 12, 40)]) B (hts _ List.mem_cons_self)
  subst hsz
  have hD := hD0.self (sz := s.heap.size)
  generalize hAe : va_A [(h0, .inr (7, [.ref oB, .ref oP])), (oB, .inr (0, [.ref am, .ref oM, .ref oS, .ref oK, .ref oL, .ref oD])), (oL, .inr (4, [.int 128, .int 0, .ref ap, .int 0, .int 0, .int 0, .int 0])), (ap, .inl (tp, 32, .inl (fun _ => 0))), (ho, .inl (to, 1, .inr (.inl fo)))] s.heap.size = A at hD hZU hZN ⊢
  have hA : ∀ q : Nat, s.heap.size ≤ q → A q := fun q h => by rw [← hAe]; exact Or.inr h
  have hS0 : ∀ G : Heap, s.heap = G → va_S A s.heap G [] := fun G h => by subst h; exact va_S.rf
  generalize hHe : s.heap = H at hP ⊢
  have hS := hS0 H hHe
  have hP : va_P (dC, dI) vwCl [(h0, .inr (7, [.ref oB, .ref oP])), (oB, .inr (0, [.ref am, .ref oM, .ref oS, .ref oK, .ref oL, .ref oD])), (oL, .inr (4, [.int 128, .int 0, .ref ap, .int 0, .int 0, .int 0, .int 0])), (ap, .inl (tp, 32, .inl (fun _ => 0))), (ho, .inl (to, 1, .inr (.inl fo)))] H := hP
  have hD : va_D A [(h0, .inr (7, [.ref oB, .ref oP])), (oB, .inr (0, [.ref am, .ref oM, .ref oS, .ref oK, .ref oL, .ref oD])), (oL, .inr (4, [.int 128, .int 0, .ref ap, .int 0, .int 0, .int 0, .int 0])), (ap, .inl (tp, 32, .inl (fun _ => 0))), (ho, .inl (to, 1, .inr (.inl fo)))] := hD
  have hK : va_K (dC, dI) vwCl [(tp, .int), (to, .long)] s := hK
  have hl := lv_entry ([.ref h0, .int p0, .ref ho]) (n := 4) (Nat.le_of_ble_eq_true rfl)
  rw [lg_entry_eq]
  generalize (lg_sl ([.ref h0, .int p0, .ref ho]) ++ List.replicate (4 - (lg_sl ([.ref h0, .int p0, .ref ho])).length) Slot.unset).toArray = ls at hl ⊢
  have hl : lv_has ls 4 [(0, .ref h0), (1, .int p0), (2, .ref ho)] := hl
  refine lv_aload_n hx hb dL_printed_0 rfl (lv_at hl 2 rfl) ?_
  refine lv_iconst (v := 0) hx hb dL_printed_1 (by decide) ?_
  refine lv_aload_n hx hb dL_printed_2 rfl (lv_at hl 0 rfl) ?_
  refine lv_iload_n hx hb dL_printed_3 rfl (lv_at hl 1 rfl) ?_
  have hPc := hP.sub (ws' := [(h0, .inr (7, [.ref oB, .ref oP])), (oB, .inr (0, [.ref am, .ref oM, .ref oS, .ref oK, .ref oL, .ref oD])), (oL, .inr (4, [.int 128, .int 0, .ref ap, .int 0, .int 0, .int 0, .int 0])), (ap, .inl (tp, 32, .inl (fun _ => 0)))]) [0, 1, 2, 3] rfl
  have hDc := hD.sub (ws' := [(h0, .inr (7, [.ref oB, .ref oP])), (oB, .inr (0, [.ref am, .ref oM, .ref oS, .ref oK, .ref oL, .ref oD])), (oL, .inr (4, [.int 128, .int 0, .ref ap, .int 0, .int 0, .int 0, .int 0])), (ap, .inl (tp, 32, .inl (fun _ => 0)))]) [0, 1, 2, 3] (by decide) rfl
  have hKc := hK.sub (tys' := [(tp, .int)]) [0] rfl
  have hFc := va_free (wc := [(h0, .inr (7, [.ref oB, .ref oP])), (oB, .inr (0, [.ref am, .ref oM, .ref oS, .ref oK, .ref oL, .ref oD])), (oL, .inr (4, [.int 128, .int 0, .ref ap, .int 0, .int 0, .int 0, .int 0])), (ap, .inl (tp, 32, .inl (fun _ => 0)))]) hD hS hA [0, 1, 2, 3] rfl
  refine vx_calli (vx_runV (As := [.int p0]) (rest := [.int 0, .ref ho]) ⟨hx, hb, hml, hown, hts⟩ (c_printed l dC dI h0 oB oP am oM oS oK oL oD ap tp p0 H.size hlt) (cwV 1 hts gL_printed_X8_printed rfl rfl rfl (by decide +kernel) ⟨Nat.le_of_ble_eq_true rfl, Nat.le_of_ble_eq_true rfl⟩) ⟨fun a U g mk q => by obtain ⟨q0, q1, qP, qK, qD, e0, e1, e2, e3, e4, e5⟩ := q; exact ⟨q0, q1, qP, va_K.moved (u := U) (U := U.calling g mk a) (Vm.Alike.refl U.vm) qK, qD, vx_Zq.moved (u := U) (U := U.calling g mk a) (Vm.Alike.refl U.vm) e0, vx_Zq.moved (u := U) (U := U.calling g mk a) (Vm.Alike.refl U.vm) e1, va_Nw.same (U := U.calling g mk a) rfl rfl e2, va_Nw.same (U := U.calling g mk a) rfl rfl e3, va_Nw.same (U := U.calling g mk a) rfl rfl e4, va_Nw.same (U := U.calling g mk a) rfl rfl e5⟩, va_recv hKc hPc (ci := 7) (q0 := 0) rfl rfl, fun U hU hW => ⟨rfl, by rw [hU], by rw [hU]; exact hPc, va_K.moved hW.alike hKc, hDc.weaken (fun _ _ _ _ => trivial), by rw [hU]; exact vx_Zq.moved hW.alike (vx_Zq.narrow (vx_Zq.kept hZU hS.2.1) hFc), by rw [hU]; exact vx_Zq.moved hW.alike (vx_Zq.narrow (vx_Zq.kept hZN hS.2.1) hFc), va_Nw.warmD hW hd1, va_Nw.warmD hW hd2, va_Nw.warmD hW hd3, va_Nw.warmC hW hcB⟩⟩ rfl rfl hl.1 rfl (lv_room (Nat.le_of_ble_eq_true rfl)) dL_printed_4 ⟨Nat.le_of_ble_eq_true rfl, Nat.le_of_ble_eq_true rfl⟩) hS (fun q _ h => hFc q h) hFc (fun q _ h => hFc q h) (fun E9 ce9 q9 u t H1 locs ht hvm hpx hBX hz1 hk1 hS hce hcv hcl => ?_) (fun r1 u2 t H1 locs ht hvm hw hB hz1 hk1 hS => ?_)
  · skip
    try dsimp only at hBX
    obtain ⟨hP, hD⟩ := va_join (wr := [(ho, .inl (to, 1, .inr (.inl fo)))]) (w1 := []) hP hD [0, 1, 2, 3] [4] rfl rfl (by decide) (by decide) hk1 hFc (fun k q h => by simp at h) ⟨fun i j p q h => by simp at h, fun k q h => by simp at h⟩
    have hK := hK.sub (tys' := [(to, .long)]) [1] rfl
    rcases hBX with ⟨rfl, _⟩
    · refine vx_catch (own := RL) (name := "java/lang/IndexOutOfBoundsException") hown [] ⟨0, 9, 12, 40⟩ [] (by rw [htb]; rfl) (fun z hz => nomatch hz) (by decide) (by decide) (hts (.classLink RL 40 "java/lang/IndexOutOfBoundsException") (by decide +kernel)) (va_Nw.use rfl hcB) hce hcv hcl ?_
      generalize H1 = H at hP hS ⊢
      have hP : va_P (dC, dI) vwCl [(ho, .inl (to, 1, .inr (.inl fo)))] H := hP
      have hD : va_D A [(ho, .inl (to, 1, .inr (.inl fo)))] := hD
      have hK : va_K (dC, dI) vwCl [(to, .long)] s := hK
      refine W.widen (k := 1) (n := 6) (Nat.le_of_ble_eq_true rfl) (Nat.le_of_ble_eq_true rfl) ?_
      refine lv_astore_n (lv' := [(3, .ref q9), (0, .ref h0), (1, .int p0), (2, .ref ho)]) hx hb dL_printed_12 rfl hl (by decide) rfl (fun ls hl => ?_)
      refine lv_iconst (v := 1) hx hb dL_printed_13 (by decide) ?_
      have hP9 := hP.sub (ws' := [(ho, .inl (to, 1, .inr (.inl fo)))]) [0] rfl
      have hD9 := hD.sub (ws' := [(ho, .inl (to, 1, .inr (.inl fo)))]) [0] (by decide) rfl
      have hK9 := hK.sub (tys' := [(to, .long)]) [0] rfl
      refine vx_ret ?_
      exact W.iret (v := 1) hx hb hr (fun t ht hW => ⟨⟨1, (fo), rfl, (by first | (exact Or.inl ⟨rfl, by omega, rfl⟩) | (exact Or.inr ⟨rfl, by omega⟩)), by rw [ht]; exact hP9, va_K.moved hW.alike hK9, hD9⟩, hS.F ht⟩) hS.2.2 dL_printed_14
  · skip
    obtain ⟨hP1, hK1, hD1⟩ := hB
    rw [ht] at hP1
    have hK1 := va_K.moved hvm.symm hK1
    try dsimp only at hw
    obtain ⟨hP, hD⟩ := va_join (wr := [(ho, .inl (to, 1, .inr (.inl fo)))]) (w1 := []) hP hD [0, 1, 2, 3] [4] rfl rfl (by decide) (by decide) hk1 hFc hP1 hD1
    have hK := (hK.sub (tys' := [(to, .long)]) [1] rfl).app hK1
    generalize H1 = H at hP hS ⊢
    have hP : va_P (dC, dI) vwCl [(ho, .inl (to, 1, .inr (.inl fo)))] H := hP
    have hD : va_D A [(ho, .inl (to, 1, .inr (.inl fo)))] := hD
    have hK : va_K (dC, dI) vwCl [(to, .long)] s := hK
    refine W.widen (k := 1) (n := 6) (Nat.le_of_ble_eq_true rfl) (Nat.le_of_ble_eq_true rfl) ?_
    obtain ⟨rfl, _⟩ := hw
    refine lv_i2l hx hb dL_printed_7 rfl ?_
    refine lv_topl (fun y3 ey3 => ?_)
    obtain rfl : y3 = 0 := by rw [ey3]; decide
    refine va_last (D := (dC, dI)) hx hb hK hP hD hS 0 0 rfl rfl (vp_in_iff.mpr (by decide)) dL_printed_8 (fun H locs hP hD hS => ?_)
    have hP : va_P (dC, dI) vwCl [(ho, .inl (to, 1, .inr (.inl (vp_updL fo (0 : Int32).toNatClampNeg 0))))] H := hP
    have hD : va_D A [(ho, .inl (to, 1, .inr (.inl (vp_updL fo (0 : Int32).toNatClampNeg 0))))] := hD
    refine lv_goto (tgt := 15) hx hb dL_printed_9 (by decide) ?_
    refine lv_iconst (v := 0) hx hb dL_printed_15 (by decide) ?_
    have hP9 := hP.sub (ws' := [(ho, .inl (to, 1, .inr (.inl (vp_updL fo (0 : Int32).toNatClampNeg 0))))]) [0] rfl
    have hD9 := hD.sub (ws' := [(ho, .inl (to, 1, .inr (.inl (vp_updL fo (0 : Int32).toNatClampNeg 0))))]) [0] (by decide) rfl
    have hK9 := hK.sub (tys' := [(to, .long)]) [0] rfl
    refine vx_ret ?_
    exact W.iret (v := 0) hx hb hr (fun t ht hW => ⟨⟨0, (vp_updL fo (0 : Int32).toNatClampNeg 0), rfl, (by first | (exact Or.inl ⟨rfl, by omega, rfl⟩) | (exact Or.inr ⟨rfl, by omega⟩)), by rw [ht]; exact hP9, va_K.moved hW.alike hK9, hD9⟩, hS.F ht⟩) hS.2.2 dL_printed_16
set_option maxHeartbeats 4000000 in
set_option maxRecDepth 100000 in
theorem c_L_load (l : Launch) (dC : Nat → ClassId) (dI : Nat → Nat → Nat) (h0 : Nat) (oB : Nat) (oP : Nat) (am : Nat) (oM : Nat) (oS : Nat) (oK : Nat) (oL : Nat) (oD : Nat) (aw : Nat) (tw : ClassId) (p0 : Int32) (p1 : Int32) (p2 : Int32) (sz : Nat) (hlt : l.stackTraces = false) : vx_Met l yL_load wsL_load ({ frames := 7, cells := 1, slots := 6, locals := 104 } : Room) (va_Pc [.ref h0, .int p0, .int p1, .int p2] (fun U => U.heap.size = sz ∧ va_P (dC, dI) vwCl [(h0, .inr (7, [.ref oB, .ref oP])), (oB, .inr (0, [.ref am, .ref oM, .ref oS, .ref oK, .ref oL, .ref oD])), (oD, .inr (1, [.int 128, .int 0, .ref aw, .int 0, .int 0, .int 0, .int 0, .int 0, .int 0, .int 0])), (aw, .inl (tw, 128, .inl (fun _ => 0)))] U.heap ∧ va_K (dC, dI) vwCl [(tw, .int)] U ∧ va_D (fun _ => True) [(h0, .inr (7, [.ref oB, .ref oP])), (oB, .inr (0, [.ref am, .ref oM, .ref oS, .ref oK, .ref oL, .ref oD])), (oD, .inr (1, [.int 128, .int 0, .ref aw, .int 0, .int 0, .int 0, .int 0, .int 0, .int 0, .int 0])), (aw, .inl (tw, 128, .inl (fun _ => 0)))] ∧ vx_Zq Bundle.tN "UNASSIGNED_STACK" Bundle.steD (va_A [(h0, .inr (7, [.ref oB, .ref oP])), (oB, .inr (0, [.ref am, .ref oM, .ref oS, .ref oK, .ref oL, .ref oD])), (oD, .inr (1, [.int 128, .int 0, .ref aw, .int 0, .int 0, .int 0, .int 0, .int 0, .int 0, .int 0])), (aw, .inl (tw, 128, .inl (fun _ => 0)))] sz) U U.heap ∧ vx_Zq Bundle.tN "SUPPRESSED_SENTINEL" Bundle.listD (va_A [(h0, .inr (7, [.ref oB, .ref oP])), (oB, .inr (0, [.ref am, .ref oM, .ref oS, .ref oK, .ref oL, .ref oD])), (oD, .inr (1, [.int 128, .int 0, .ref aw, .int 0, .int 0, .int 0, .int 0, .int 0, .int 0, .int 0])), (aw, .inl (tw, 128, .inl (fun _ => 0)))] sz) U U.heap ∧ va_Nw (.declares (Bundle.init0 "java/lang/RuntimeException")) U ∧ va_Nw (.declares (Bundle.init0 "java/lang/Exception")) U ∧ va_Nw (.declares (Bundle.init0 Bundle.tN)) U ∧ va_Nw (.castable "java/lang/IllegalArgumentException" "java/lang/IllegalArgumentException") U)) (va_Qi (fun (r : Int32) (u : Unit) => (r = 0 ∧ ((0 ≤ p0.toInt ∧ p0.toInt < 8 ∧ 0 ≤ p1.toInt ∧ p1.toInt < 16) ∧ (0 ≤ p2.toInt ∧ p2.toInt ≤ 65535))) ∨ (r = 1 ∧ ¬ ((0 ≤ p0.toInt ∧ p0.toInt < 8 ∧ 0 ≤ p1.toInt ∧ p1.toInt < 16) ∧ (0 ≤ p2.toInt ∧ p2.toInt ≤ 65535)))) (fun (u : Unit) (t : State) => va_P (dC, dI) vwCl [] t.heap ∧ va_K (dC, dI) vwCl [] t ∧ va_D (va_A [(h0, .inr (7, [.ref oB, .ref oP])), (oB, .inr (0, [.ref am, .ref oM, .ref oS, .ref oK, .ref oL, .ref oD])), (oD, .inr (1, [.int 128, .int 0, .ref aw, .int 0, .int 0, .int 0, .int 0, .int 0, .int 0, .int 0])), (aw, .inl (tw, 128, .inl (fun _ => 0)))] sz) []) (va_A [(h0, .inr (7, [.ref oB, .ref oP])), (oB, .inr (0, [.ref am, .ref oM, .ref oS, .ref oK, .ref oL, .ref oD])), (oD, .inr (1, [.int 128, .int 0, .ref aw, .int 0, .int 0, .int 0, .int 0, .int 0, .int 0, .int 0])), (aw, .inl (tw, 128, .inl (fun _ => 0)))] sz)) (vx_X (fun _ : Unit => True) (fun (E : String) (_ : Unit) (_ : State) => False) (va_A [(h0, .inr (7, [.ref oB, .ref oP])), (oB, .inr (0, [.ref am, .ref oM, .ref oS, .ref oK, .ref oL, .ref oD])), (oD, .inr (1, [.int 128, .int 0, .ref aw, .int 0, .int 0, .int 0, .int 0, .int 0, .int 0, .int 0])), (aw, .inl (tw, 128, .inl (fun _ => 0)))] sz)) 1 6 (va_A [(h0, .inr (7, [.ref oB, .ref oP])), (oB, .inr (0, [.ref am, .ref oM, .ref oS, .ref oK, .ref oL, .ref oD])), (oD, .inr (1, [.int 128, .int 0, .ref aw, .int 0, .int 0, .int 0, .int 0, .int 0, .int 0, .int 0])), (aw, .inl (tw, 128, .inl (fun _ => 0)))] sz) := by
  refine vx_ofWH (cc := cL_load) (maxL := 5) (ret := (some .int)) (by decide) rfl ?_
  intro p e s m args below meth c s₁ B hml hv
  obtain ⟨rfl, hsz, hP, hK, hD0, hZU, hZN, hd1, hd2, hd3, hcI⟩ := hv
  have hx := B.exec
  have hb := B.bytes
  have hr := B.returns
  have hts := atoms_spec (ws := wsL_load) B.pre
  have hown : s.vm.findClass RL = some m.cls := findClass_of_methodNamed B.named
  have hlocks := B.notSynchronized
  have htb := vx_table (x := yL_load) (y := yL_load) (bytes := cL_load) (maxL' := 5) (ret' := (some .int)) (hh := [(0, 7, 10, 13)]) B (hts _ List.mem_cons_self)
  subst hsz
  have hD := hD0.self (sz := s.heap.size)
  generalize hAe : va_A [(h0, .inr (7, [.ref oB, .ref oP])), (oB, .inr (0, [.ref am, .ref oM, .ref oS, .ref oK, .ref oL, .ref oD])), (oD, .inr (1, [.int 128, .int 0, .ref aw, .int 0, .int 0, .int 0, .int 0, .int 0, .int 0, .int 0])), (aw, .inl (tw, 128, .inl (fun _ => 0)))] s.heap.size = A at hD hZU hZN ⊢
  have hA : ∀ q : Nat, s.heap.size ≤ q → A q := fun q h => by rw [← hAe]; exact Or.inr h
  have hS0 : ∀ G : Heap, s.heap = G → va_S A s.heap G [] := fun G h => by subst h; exact va_S.rf
  generalize hHe : s.heap = H at hP ⊢
  have hS := hS0 H hHe
  have hP : va_P (dC, dI) vwCl [(h0, .inr (7, [.ref oB, .ref oP])), (oB, .inr (0, [.ref am, .ref oM, .ref oS, .ref oK, .ref oL, .ref oD])), (oD, .inr (1, [.int 128, .int 0, .ref aw, .int 0, .int 0, .int 0, .int 0, .int 0, .int 0, .int 0])), (aw, .inl (tw, 128, .inl (fun _ => 0)))] H := hP
  have hD : va_D A [(h0, .inr (7, [.ref oB, .ref oP])), (oB, .inr (0, [.ref am, .ref oM, .ref oS, .ref oK, .ref oL, .ref oD])), (oD, .inr (1, [.int 128, .int 0, .ref aw, .int 0, .int 0, .int 0, .int 0, .int 0, .int 0, .int 0])), (aw, .inl (tw, 128, .inl (fun _ => 0)))] := hD
  have hK : va_K (dC, dI) vwCl [(tw, .int)] s := hK
  have hl := lv_entry ([.ref h0, .int p0, .int p1, .int p2]) (n := 5) (Nat.le_of_ble_eq_true rfl)
  rw [lg_entry_eq]
  generalize (lg_sl ([.ref h0, .int p0, .int p1, .int p2]) ++ List.replicate (5 - (lg_sl ([.ref h0, .int p0, .int p1, .int p2])).length) Slot.unset).toArray = ls at hl ⊢
  have hl : lv_has ls 5 [(0, .ref h0), (1, .int p0), (2, .int p1), (3, .int p2)] := hl
  refine lv_aload_n hx hb dL_load_0 rfl (lv_at hl 0 rfl) ?_
  refine lv_iload_n hx hb dL_load_1 rfl (lv_at hl 1 rfl) ?_
  refine lv_iload_n hx hb dL_load_2 rfl (lv_at hl 2 rfl) ?_
  refine lv_iload_n hx hb dL_load_3 rfl (lv_at hl 3 rfl) ?_
  have hPc := hP.sub (ws' := [(h0, .inr (7, [.ref oB, .ref oP])), (oB, .inr (0, [.ref am, .ref oM, .ref oS, .ref oK, .ref oL, .ref oD])), (oD, .inr (1, [.int 128, .int 0, .ref aw, .int 0, .int 0, .int 0, .int 0, .int 0, .int 0, .int 0])), (aw, .inl (tw, 128, .inl (fun _ => 0)))]) [0, 1, 2, 3] rfl
  have hDc := hD.sub (ws' := [(h0, .inr (7, [.ref oB, .ref oP])), (oB, .inr (0, [.ref am, .ref oM, .ref oS, .ref oK, .ref oL, .ref oD])), (oD, .inr (1, [.int 128, .int 0, .ref aw, .int 0, .int 0, .int 0, .int 0, .int 0, .int 0, .int 0])), (aw, .inl (tw, 128, .inl (fun _ => 0)))]) [0, 1, 2, 3] (by decide) rfl
  have hKc := hK.sub (tys' := [(tw, .int)]) [0] rfl
  have hFc := va_free (wc := [(h0, .inr (7, [.ref oB, .ref oP])), (oB, .inr (0, [.ref am, .ref oM, .ref oS, .ref oK, .ref oL, .ref oD])), (oD, .inr (1, [.int 128, .int 0, .ref aw, .int 0, .int 0, .int 0, .int 0, .int 0, .int 0, .int 0])), (aw, .inl (tw, 128, .inl (fun _ => 0)))]) hD hS hA [0, 1, 2, 3] rfl
  refine vx_callv (vx_runV (As := [.int p0, .int p1, .int p2]) (rest := []) ⟨hx, hb, hml, hown, hts⟩ (c_load l dC dI h0 oB oP am oM oS oK oL oD aw tw p0 p1 p2 H.size hlt) (cwV 3 hts gL_load_X8_load rfl rfl rfl (by decide +kernel) ⟨Nat.le_of_ble_eq_true rfl, Nat.le_of_ble_eq_true rfl⟩) ⟨fun a U g mk q => by obtain ⟨q0, q1, qP, qK, qD, e0, e1, e2, e3, e4, e5⟩ := q; exact ⟨q0, q1, qP, va_K.moved (u := U) (U := U.calling g mk a) (Vm.Alike.refl U.vm) qK, qD, vx_Zq.moved (u := U) (U := U.calling g mk a) (Vm.Alike.refl U.vm) e0, vx_Zq.moved (u := U) (U := U.calling g mk a) (Vm.Alike.refl U.vm) e1, va_Nw.same (U := U.calling g mk a) rfl rfl e2, va_Nw.same (U := U.calling g mk a) rfl rfl e3, va_Nw.same (U := U.calling g mk a) rfl rfl e4, va_Nw.same (U := U.calling g mk a) rfl rfl e5⟩, va_recv hKc hPc (ci := 7) (q0 := 0) rfl rfl, fun U hU hW => ⟨rfl, by rw [hU], by rw [hU]; exact hPc, va_K.moved hW.alike hKc, hDc.weaken (fun _ _ _ _ => trivial), by rw [hU]; exact vx_Zq.moved hW.alike (vx_Zq.narrow (vx_Zq.kept hZU hS.2.1) hFc), by rw [hU]; exact vx_Zq.moved hW.alike (vx_Zq.narrow (vx_Zq.kept hZN hS.2.1) hFc), va_Nw.warmD hW hd1, va_Nw.warmD hW hd2, va_Nw.warmD hW hd3, va_Nw.warmC hW hcI⟩⟩ rfl rfl hl.1 rfl (lv_room (Nat.le_of_ble_eq_true rfl)) dL_load_4 ⟨Nat.le_of_ble_eq_true rfl, Nat.le_of_ble_eq_true rfl⟩) hS (fun q _ h => hFc q h) hFc (fun q _ h => hFc q h) (fun E9 ce9 q9 u t H1 locs ht hvm hpx hBX hz1 hk1 hS hce hcv hcl => ?_) (fun u2 t H1 locs ht hvm hw hB hz1 hk1 hS => ?_)
  · skip
    try dsimp only at hBX
    obtain ⟨hP, hD⟩ := va_join (wr := []) (w1 := []) hP hD [0, 1, 2, 3] [] rfl rfl (by decide) (by decide) hk1 hFc (fun k q h => by simp at h) ⟨fun i j p q h => by simp at h, fun k q h => by simp at h⟩
    have hK := hK.sub (tys' := []) [] rfl
    rcases hBX with ⟨rfl, _⟩
    · refine vx_catch (own := RL) (name := "java/lang/IllegalArgumentException") hown [] ⟨0, 7, 10, 13⟩ [] (by rw [htb]; rfl) (fun z hz => nomatch hz) (by decide) (by decide) (hts (.classLink RL 13 "java/lang/IllegalArgumentException") (by decide +kernel)) (va_Nw.use rfl hcI) hce hcv hcl ?_
      generalize H1 = H at hP hS ⊢
      have hP : va_P (dC, dI) vwCl [] H := hP
      have hD : va_D A [] := hD
      have hK : va_K (dC, dI) vwCl [] s := hK
      refine W.widen (k := 1) (n := 6) (Nat.le_of_ble_eq_true rfl) (Nat.le_of_ble_eq_true rfl) ?_
      refine lv_astore (lv' := [(4, .ref q9), (0, .ref h0), (1, .int p0), (2, .int p1), (3, .int p2)]) hx hb dL_load_10 hl (by decide) rfl (fun ls hl => ?_)
      refine lv_iconst (v := 1) hx hb dL_load_12 (by decide) ?_
      have hP9 := hP.sub (ws' := []) [] rfl
      have hD9 := hD.sub (ws' := []) [] (by decide) rfl
      have hK9 := hK.sub (tys' := []) [] rfl
      refine vx_ret ?_
      exact W.iret (v := 1) hx hb hr (fun t ht hW => ⟨⟨1, (), rfl, (by first | (exact Or.inl ⟨rfl, by omega⟩) | (exact Or.inr ⟨rfl, by omega⟩)), by rw [ht]; exact hP9, va_K.moved hW.alike hK9, hD9⟩, hS.F ht⟩) hS.2.2 dL_load_13
  · skip
    obtain ⟨hP1, hK1, hD1⟩ := hB
    rw [ht] at hP1
    have hK1 := va_K.moved hvm.symm hK1
    try dsimp only at hw
    obtain ⟨hP, hD⟩ := va_join (wr := []) (w1 := []) hP hD [0, 1, 2, 3] [] rfl rfl (by decide) (by decide) hk1 hFc hP1 hD1
    have hK := (hK.sub (tys' := []) [] rfl).app hK1
    generalize H1 = H at hP hS ⊢
    have hP : va_P (dC, dI) vwCl [] H := hP
    have hD : va_D A [] := hD
    have hK : va_K (dC, dI) vwCl [] s := hK
    refine W.widen (k := 1) (n := 6) (Nat.le_of_ble_eq_true rfl) (Nat.le_of_ble_eq_true rfl) ?_
    refine lv_goto (tgt := 14) hx hb dL_load_7 (by decide) ?_
    refine lv_iconst (v := 0) hx hb dL_load_14 (by decide) ?_
    have hP9 := hP.sub (ws' := []) [] rfl
    have hD9 := hD.sub (ws' := []) [] (by decide) rfl
    have hK9 := hK.sub (tys' := []) [] rfl
    refine vx_ret ?_
    exact W.iret (v := 0) hx hb hr (fun t ht hW => ⟨⟨0, (), rfl, (by first | (exact Or.inl ⟨rfl, by omega⟩) | (exact Or.inr ⟨rfl, by omega⟩)), by rw [ht]; exact hP9, va_K.moved hW.alike hK9, hD9⟩, hS.F ht⟩) hS.2.2 dL_load_15
set_option maxHeartbeats 4000000 in
set_option maxRecDepth 100000 in
theorem c_L_disk (l : Launch) (dC : Nat → ClassId) (dI : Nat → Nat → Nat) (h0 : Nat) (oB : Nat) (oP : Nat) (am : Nat) (oM : Nat) (oS : Nat) (oK : Nat) (oL : Nat) (oD : Nat) (aw : Nat) (tw : ClassId) (p0 : Int32) (p1 : Int32) (ho : Nat) (to : ClassId) (fo : Nat → Int64) (sz : Nat) (hlt : l.stackTraces = false) : vx_Met l yL_disk wsL_disk ({ frames := 7, cells := 1, slots := 6, locals := 103 } : Room) (va_Pc [.ref h0, .int p0, .int p1, .ref ho] (fun U => U.heap.size = sz ∧ va_P (dC, dI) vwCl [(h0, .inr (7, [.ref oB, .ref oP])), (oB, .inr (0, [.ref am, .ref oM, .ref oS, .ref oK, .ref oL, .ref oD])), (oD, .inr (1, [.int 128, .int 0, .ref aw, .int 0, .int 0, .int 0, .int 0, .int 0, .int 0, .int 0])), (aw, .inl (tw, 128, .inl (fun _ => 0))), (ho, .inl (to, 1, .inr (.inl fo)))] U.heap ∧ va_K (dC, dI) vwCl [(tw, .int), (to, .long)] U ∧ va_D (fun _ => True) [(h0, .inr (7, [.ref oB, .ref oP])), (oB, .inr (0, [.ref am, .ref oM, .ref oS, .ref oK, .ref oL, .ref oD])), (oD, .inr (1, [.int 128, .int 0, .ref aw, .int 0, .int 0, .int 0, .int 0, .int 0, .int 0, .int 0])), (aw, .inl (tw, 128, .inl (fun _ => 0))), (ho, .inl (to, 1, .inr (.inl fo)))] ∧ vx_Zq Bundle.tN "UNASSIGNED_STACK" Bundle.steD (va_A [(h0, .inr (7, [.ref oB, .ref oP])), (oB, .inr (0, [.ref am, .ref oM, .ref oS, .ref oK, .ref oL, .ref oD])), (oD, .inr (1, [.int 128, .int 0, .ref aw, .int 0, .int 0, .int 0, .int 0, .int 0, .int 0, .int 0])), (aw, .inl (tw, 128, .inl (fun _ => 0))), (ho, .inl (to, 1, .inr (.inl fo)))] sz) U U.heap ∧ vx_Zq Bundle.tN "SUPPRESSED_SENTINEL" Bundle.listD (va_A [(h0, .inr (7, [.ref oB, .ref oP])), (oB, .inr (0, [.ref am, .ref oM, .ref oS, .ref oK, .ref oL, .ref oD])), (oD, .inr (1, [.int 128, .int 0, .ref aw, .int 0, .int 0, .int 0, .int 0, .int 0, .int 0, .int 0])), (aw, .inl (tw, 128, .inl (fun _ => 0))), (ho, .inl (to, 1, .inr (.inl fo)))] sz) U U.heap ∧ va_Nw (.declares (Bundle.init0 "java/lang/RuntimeException")) U ∧ va_Nw (.declares (Bundle.init0 "java/lang/Exception")) U ∧ va_Nw (.declares (Bundle.init0 Bundle.tN)) U ∧ va_Nw (.castable "java/lang/IllegalArgumentException" "java/lang/IllegalArgumentException") U)) (va_Qi (fun (r : Int32) (u : (Nat → Int64)) => (r = 0 ∧ ((0 ≤ p0.toInt ∧ p0.toInt < 8 ∧ 0 ≤ p1.toInt ∧ p1.toInt < 16)) ∧ u (0 : Int32).toNatClampNeg = 0) ∨ (r = 1 ∧ ¬ ((0 ≤ p0.toInt ∧ p0.toInt < 8 ∧ 0 ≤ p1.toInt ∧ p1.toInt < 16)))) (fun (u : (Nat → Int64)) (t : State) => va_P (dC, dI) vwCl [(ho, .inl (to, 1, .inr (.inl u)))] t.heap ∧ va_K (dC, dI) vwCl [(to, .long)] t ∧ va_D (va_A [(h0, .inr (7, [.ref oB, .ref oP])), (oB, .inr (0, [.ref am, .ref oM, .ref oS, .ref oK, .ref oL, .ref oD])), (oD, .inr (1, [.int 128, .int 0, .ref aw, .int 0, .int 0, .int 0, .int 0, .int 0, .int 0, .int 0])), (aw, .inl (tw, 128, .inl (fun _ => 0))), (ho, .inl (to, 1, .inr (.inl fo)))] sz) [(ho, .inl (to, 1, .inr (.inl u)))]) (va_A [(h0, .inr (7, [.ref oB, .ref oP])), (oB, .inr (0, [.ref am, .ref oM, .ref oS, .ref oK, .ref oL, .ref oD])), (oD, .inr (1, [.int 128, .int 0, .ref aw, .int 0, .int 0, .int 0, .int 0, .int 0, .int 0, .int 0])), (aw, .inl (tw, 128, .inl (fun _ => 0))), (ho, .inl (to, 1, .inr (.inl fo)))] sz)) (vx_X (fun _ : Unit => True) (fun (E : String) (_ : Unit) (_ : State) => False) (va_A [(h0, .inr (7, [.ref oB, .ref oP])), (oB, .inr (0, [.ref am, .ref oM, .ref oS, .ref oK, .ref oL, .ref oD])), (oD, .inr (1, [.int 128, .int 0, .ref aw, .int 0, .int 0, .int 0, .int 0, .int 0, .int 0, .int 0])), (aw, .inl (tw, 128, .inl (fun _ => 0))), (ho, .inl (to, 1, .inr (.inl fo)))] sz)) 1 6 (va_A [(h0, .inr (7, [.ref oB, .ref oP])), (oB, .inr (0, [.ref am, .ref oM, .ref oS, .ref oK, .ref oL, .ref oD])), (oD, .inr (1, [.int 128, .int 0, .ref aw, .int 0, .int 0, .int 0, .int 0, .int 0, .int 0, .int 0])), (aw, .inl (tw, 128, .inl (fun _ => 0))), (ho, .inl (to, 1, .inr (.inl fo)))] sz) := by
  refine vx_ofWH (cc := cL_disk) (maxL := 5) (ret := (some .int)) (by decide) rfl ?_
  intro p e s m args below meth c s₁ B hml hv
  obtain ⟨rfl, hsz, hP, hK, hD0, hZU, hZN, hd1, hd2, hd3, hcI⟩ := hv
  have hx := B.exec
  have hb := B.bytes
  have hr := B.returns
  have hts := atoms_spec (ws := wsL_disk) B.pre
  have hown : s.vm.findClass RL = some m.cls := findClass_of_methodNamed B.named
  have hlocks := B.notSynchronized
  have htb := vx_table (x := yL_disk) (y := yL_disk) (bytes := cL_disk) (maxL' := 5) (ret' := (some .int)) (hh := [(0, 10, 13, 13)]) B (hts _ List.mem_cons_self)
  subst hsz
  have hD := hD0.self (sz := s.heap.size)
  generalize hAe : va_A [(h0, .inr (7, [.ref oB, .ref oP])), (oB, .inr (0, [.ref am, .ref oM, .ref oS, .ref oK, .ref oL, .ref oD])), (oD, .inr (1, [.int 128, .int 0, .ref aw, .int 0, .int 0, .int 0, .int 0, .int 0, .int 0, .int 0])), (aw, .inl (tw, 128, .inl (fun _ => 0))), (ho, .inl (to, 1, .inr (.inl fo)))] s.heap.size = A at hD hZU hZN ⊢
  have hA : ∀ q : Nat, s.heap.size ≤ q → A q := fun q h => by rw [← hAe]; exact Or.inr h
  have hS0 : ∀ G : Heap, s.heap = G → va_S A s.heap G [] := fun G h => by subst h; exact va_S.rf
  generalize hHe : s.heap = H at hP ⊢
  have hS := hS0 H hHe
  have hP : va_P (dC, dI) vwCl [(h0, .inr (7, [.ref oB, .ref oP])), (oB, .inr (0, [.ref am, .ref oM, .ref oS, .ref oK, .ref oL, .ref oD])), (oD, .inr (1, [.int 128, .int 0, .ref aw, .int 0, .int 0, .int 0, .int 0, .int 0, .int 0, .int 0])), (aw, .inl (tw, 128, .inl (fun _ => 0))), (ho, .inl (to, 1, .inr (.inl fo)))] H := hP
  have hD : va_D A [(h0, .inr (7, [.ref oB, .ref oP])), (oB, .inr (0, [.ref am, .ref oM, .ref oS, .ref oK, .ref oL, .ref oD])), (oD, .inr (1, [.int 128, .int 0, .ref aw, .int 0, .int 0, .int 0, .int 0, .int 0, .int 0, .int 0])), (aw, .inl (tw, 128, .inl (fun _ => 0))), (ho, .inl (to, 1, .inr (.inl fo)))] := hD
  have hK : va_K (dC, dI) vwCl [(tw, .int), (to, .long)] s := hK
  have hl := lv_entry ([.ref h0, .int p0, .int p1, .ref ho]) (n := 5) (Nat.le_of_ble_eq_true rfl)
  rw [lg_entry_eq]
  generalize (lg_sl ([.ref h0, .int p0, .int p1, .ref ho]) ++ List.replicate (5 - (lg_sl ([.ref h0, .int p0, .int p1, .ref ho])).length) Slot.unset).toArray = ls at hl ⊢
  have hl : lv_has ls 5 [(0, .ref h0), (1, .int p0), (2, .int p1), (3, .ref ho)] := hl
  refine lv_aload_n hx hb dL_disk_0 rfl (lv_at hl 3 rfl) ?_
  refine lv_iconst (v := 0) hx hb dL_disk_1 (by decide) ?_
  refine lv_aload_n hx hb dL_disk_2 rfl (lv_at hl 0 rfl) ?_
  refine lv_iload_n hx hb dL_disk_3 rfl (lv_at hl 1 rfl) ?_
  refine lv_iload_n hx hb dL_disk_4 rfl (lv_at hl 2 rfl) ?_
  have hPc := hP.sub (ws' := [(h0, .inr (7, [.ref oB, .ref oP])), (oB, .inr (0, [.ref am, .ref oM, .ref oS, .ref oK, .ref oL, .ref oD])), (oD, .inr (1, [.int 128, .int 0, .ref aw, .int 0, .int 0, .int 0, .int 0, .int 0, .int 0, .int 0])), (aw, .inl (tw, 128, .inl (fun _ => 0)))]) [0, 1, 2, 3] rfl
  have hDc := hD.sub (ws' := [(h0, .inr (7, [.ref oB, .ref oP])), (oB, .inr (0, [.ref am, .ref oM, .ref oS, .ref oK, .ref oL, .ref oD])), (oD, .inr (1, [.int 128, .int 0, .ref aw, .int 0, .int 0, .int 0, .int 0, .int 0, .int 0, .int 0])), (aw, .inl (tw, 128, .inl (fun _ => 0)))]) [0, 1, 2, 3] (by decide) rfl
  have hKc := hK.sub (tys' := [(tw, .int)]) [0] rfl
  have hFc := va_free (wc := [(h0, .inr (7, [.ref oB, .ref oP])), (oB, .inr (0, [.ref am, .ref oM, .ref oS, .ref oK, .ref oL, .ref oD])), (oD, .inr (1, [.int 128, .int 0, .ref aw, .int 0, .int 0, .int 0, .int 0, .int 0, .int 0, .int 0])), (aw, .inl (tw, 128, .inl (fun _ => 0)))]) hD hS hA [0, 1, 2, 3] rfl
  refine vx_calli (vx_runV (As := [.int p0, .int p1]) (rest := [.int 0, .ref ho]) ⟨hx, hb, hml, hown, hts⟩ (c_disk l dC dI h0 oB oP am oM oS oK oL oD aw tw p0 p1 H.size hlt) (cwV 2 hts gL_disk_X8_disk rfl rfl rfl (by decide +kernel) ⟨Nat.le_of_ble_eq_true rfl, Nat.le_of_ble_eq_true rfl⟩) ⟨fun a U g mk q => by obtain ⟨q0, q1, qP, qK, qD, e0, e1, e2, e3, e4, e5⟩ := q; exact ⟨q0, q1, qP, va_K.moved (u := U) (U := U.calling g mk a) (Vm.Alike.refl U.vm) qK, qD, vx_Zq.moved (u := U) (U := U.calling g mk a) (Vm.Alike.refl U.vm) e0, vx_Zq.moved (u := U) (U := U.calling g mk a) (Vm.Alike.refl U.vm) e1, va_Nw.same (U := U.calling g mk a) rfl rfl e2, va_Nw.same (U := U.calling g mk a) rfl rfl e3, va_Nw.same (U := U.calling g mk a) rfl rfl e4, va_Nw.same (U := U.calling g mk a) rfl rfl e5⟩, va_recv hKc hPc (ci := 7) (q0 := 0) rfl rfl, fun U hU hW => ⟨rfl, by rw [hU], by rw [hU]; exact hPc, va_K.moved hW.alike hKc, hDc.weaken (fun _ _ _ _ => trivial), by rw [hU]; exact vx_Zq.moved hW.alike (vx_Zq.narrow (vx_Zq.kept hZU hS.2.1) hFc), by rw [hU]; exact vx_Zq.moved hW.alike (vx_Zq.narrow (vx_Zq.kept hZN hS.2.1) hFc), va_Nw.warmD hW hd1, va_Nw.warmD hW hd2, va_Nw.warmD hW hd3, va_Nw.warmC hW hcI⟩⟩ rfl rfl hl.1 rfl (lv_room (Nat.le_of_ble_eq_true rfl)) dL_disk_5 ⟨Nat.le_of_ble_eq_true rfl, Nat.le_of_ble_eq_true rfl⟩) hS (fun q _ h => hFc q h) hFc (fun q _ h => hFc q h) (fun E9 ce9 q9 u t H1 locs ht hvm hpx hBX hz1 hk1 hS hce hcv hcl => ?_) (fun r1 u2 t H1 locs ht hvm hw hB hz1 hk1 hS => ?_)
  · skip
    try dsimp only at hBX
    obtain ⟨hP, hD⟩ := va_join (wr := [(ho, .inl (to, 1, .inr (.inl fo)))]) (w1 := []) hP hD [0, 1, 2, 3] [4] rfl rfl (by decide) (by decide) hk1 hFc (fun k q h => by simp at h) ⟨fun i j p q h => by simp at h, fun k q h => by simp at h⟩
    have hK := hK.sub (tys' := [(to, .long)]) [1] rfl
    rcases hBX with ⟨rfl, _⟩
    · refine vx_catch (own := RL) (name := "java/lang/IllegalArgumentException") hown [] ⟨0, 10, 13, 13⟩ [] (by rw [htb]; rfl) (fun z hz => nomatch hz) (by decide) (by decide) (hts (.classLink RL 13 "java/lang/IllegalArgumentException") (by decide +kernel)) (va_Nw.use rfl hcI) hce hcv hcl ?_
      generalize H1 = H at hP hS ⊢
      have hP : va_P (dC, dI) vwCl [(ho, .inl (to, 1, .inr (.inl fo)))] H := hP
      have hD : va_D A [(ho, .inl (to, 1, .inr (.inl fo)))] := hD
      have hK : va_K (dC, dI) vwCl [(to, .long)] s := hK
      refine W.widen (k := 1) (n := 6) (Nat.le_of_ble_eq_true rfl) (Nat.le_of_ble_eq_true rfl) ?_
      refine lv_astore (lv' := [(4, .ref q9), (0, .ref h0), (1, .int p0), (2, .int p1), (3, .ref ho)]) hx hb dL_disk_13 hl (by decide) rfl (fun ls hl => ?_)
      refine lv_iconst (v := 1) hx hb dL_disk_15 (by decide) ?_
      have hP9 := hP.sub (ws' := [(ho, .inl (to, 1, .inr (.inl fo)))]) [0] rfl
      have hD9 := hD.sub (ws' := [(ho, .inl (to, 1, .inr (.inl fo)))]) [0] (by decide) rfl
      have hK9 := hK.sub (tys' := [(to, .long)]) [0] rfl
      refine vx_ret ?_
      exact W.iret (v := 1) hx hb hr (fun t ht hW => ⟨⟨1, (fo), rfl, (by first | (exact Or.inl ⟨rfl, by omega, rfl⟩) | (exact Or.inr ⟨rfl, by omega⟩)), by rw [ht]; exact hP9, va_K.moved hW.alike hK9, hD9⟩, hS.F ht⟩) hS.2.2 dL_disk_16
  · skip
    obtain ⟨hP1, hK1, hD1⟩ := hB
    rw [ht] at hP1
    have hK1 := va_K.moved hvm.symm hK1
    try dsimp only at hw
    obtain ⟨hP, hD⟩ := va_join (wr := [(ho, .inl (to, 1, .inr (.inl fo)))]) (w1 := []) hP hD [0, 1, 2, 3] [4] rfl rfl (by decide) (by decide) hk1 hFc hP1 hD1
    have hK := (hK.sub (tys' := [(to, .long)]) [1] rfl).app hK1
    generalize H1 = H at hP hS ⊢
    have hP : va_P (dC, dI) vwCl [(ho, .inl (to, 1, .inr (.inl fo)))] H := hP
    have hD : va_D A [(ho, .inl (to, 1, .inr (.inl fo)))] := hD
    have hK : va_K (dC, dI) vwCl [(to, .long)] s := hK
    refine W.widen (k := 1) (n := 6) (Nat.le_of_ble_eq_true rfl) (Nat.le_of_ble_eq_true rfl) ?_
    obtain ⟨rfl, _⟩ := hw
    refine lv_i2l hx hb dL_disk_8 rfl ?_
    refine lv_topl (fun y3 ey3 => ?_)
    obtain rfl : y3 = 0 := by rw [ey3]; decide
    refine va_last (D := (dC, dI)) hx hb hK hP hD hS 0 0 rfl rfl (vp_in_iff.mpr (by decide)) dL_disk_9 (fun H locs hP hD hS => ?_)
    have hP : va_P (dC, dI) vwCl [(ho, .inl (to, 1, .inr (.inl (vp_updL fo (0 : Int32).toNatClampNeg 0))))] H := hP
    have hD : va_D A [(ho, .inl (to, 1, .inr (.inl (vp_updL fo (0 : Int32).toNatClampNeg 0))))] := hD
    refine lv_goto (tgt := 17) hx hb dL_disk_10 (by decide) ?_
    refine lv_iconst (v := 0) hx hb dL_disk_17 (by decide) ?_
    have hP9 := hP.sub (ws' := [(ho, .inl (to, 1, .inr (.inl (vp_updL fo (0 : Int32).toNatClampNeg 0))))]) [0] rfl
    have hD9 := hD.sub (ws' := [(ho, .inl (to, 1, .inr (.inl (vp_updL fo (0 : Int32).toNatClampNeg 0))))]) [0] (by decide) rfl
    have hK9 := hK.sub (tys' := [(to, .long)]) [0] rfl
    refine vx_ret ?_
    exact W.iret (v := 0) hx hb hr (fun t ht hW => ⟨⟨0, (vp_updL fo (0 : Int32).toNatClampNeg 0), rfl, (by first | (exact Or.inl ⟨rfl, by omega, rfl⟩) | (exact Or.inr ⟨rfl, by omega⟩)), by rw [ht]; exact hP9, va_K.moved hW.alike hK9, hD9⟩, hS.F ht⟩) hS.2.2 dL_disk_18
