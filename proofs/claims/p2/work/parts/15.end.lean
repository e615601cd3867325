set_option maxHeartbeats 4000000 in
theorem rf_walk (l : Launch) (hflags : l.flags = flags0) (b : Addr) (xs : List Int32) (hlen : xs.length = 196) (hxs : ∀ k, k < 196 → xs.getD k 0 = scr k) : MetFree l x (headSpec (Jvm.Cond.code x code maxLocals ret :: tables_1) roomX) (lw_P b xs) (fun _ _ _ _ _ => True) (fun _ s _ t => s.heap.size + 168 ≤ t.heap.size) := by
  refine MetFree.of_bodyS (code := code) (maxLocals := maxLocals) (ret := ret) (by decide) ?_ ?_
  · intro args s m h hn
    obtain ⟨meth, c, h1, h2, h3, h4, h5, h6, -, -⟩ := Cond.code_spec hn (atoms_spec (ws := Jvm.Cond.code x code maxLocals ret :: tables_1) h _ List.mem_cons_self)
    exact ⟨meth, c, h1, h2, h3, h4, h5, h6⟩
  · intro p e s m args below meth c s₁ B hml0 hP _
    obtain ⟨rfl, hx, hbd, hgv⟩ := hP
    obtain ⟨sc, harrAt, hlist, hof, hsmall⟩ := hx
    obtain ⟨hcb, hkn, -, -⟩ := State.arrayAt?_spec harrAt
    have hown : s.vm.findClass R_law = some m.cls := findClass_of_methodNamed B.named
    have hts0 : ∀ c ∈ (Jvm.Cond.code x code maxLocals ret :: tables_1), c.before #[Value.ref b] s = true := atoms_spec (ws := Jvm.Cond.code x code maxLocals ret :: tables_1) B.pre
    have hts : ∀ w ∈ lw_tbl, w.before #[Value.ref b] s = true := k2_hts_sels lw_privs (fun w hw => hts0 w (List.mem_cons_of_mem _ hw)) lw_privs_ok
    have hml : c.maxLocals = 7 := B.maxLocals_eq (hts0 _ List.mem_cons_self)
    have X₀ : Stand p l e roomX s m #[Value.ref b] below meth c s₁ [] 0 0 := Stand.of_body B
    have hh0 : s₁.heap = s.heap := by rw [B.state]; rfl
    have hsz : sc.slots.size = xs.length := by rw [← Array.length_toList, hlist, List.length_map]
    have hval : ∀ j : Nat, j < xs.length → sc.slots[j]? = some (.int (xs.getD j 0)) := fun j hj => by
      rw [← Array.getElem?_toList, hlist]
      simp [hj]
    have hbl : b < s.heap.size := (Array.getElem?_eq_some_iff.mp hcb).1
    have hX : va_X b xs.length (fun j => xs.getD j 0) s s.heap := ⟨sc, hcb, hof, hkn, hsz, hval⟩
    rw [hlen] at hX
    have K : W p l e roomX s m #[Value.ref b] below meth c s₁.heap [] 0 0 (MQ below (fun _ st _ t => st.heap.size + 168 ≤ t.heap.size) #[Value.ref b] s 300 6000 (fun _ => True)) (entryFrame m ([Value.ref b] : List Value).toArray 7) := by
      rw [hh0]
      exact g_start hflags ⟨B.exec, B.bytes, B.returns, hml, hown, hts, hX, hbl, B.notSynchronized, hgv⟩ hxs
    obtain ⟨t, a1, o, b1, b2, b3⟩ := K s₁ rfl X₀
    exact ⟨t, o, a1, b1, b2, b3.1⟩
/-- at a start with this script, in a machine with the room for it, the law ends outside the claim's frame, whatever the limb is -/
theorem rf_falls {Post : Tables → Env → Array Value → State → Outcome → State → Prop} (hPost : ∀ tb e a s o t, Post tb e a s o t → ∃ L, Framed s o t L 167 2606)
    {l : Launch} {p : Program} {e : Env} {s : State} {m : MethodId} {args : Array Value} {below : List Frame} {b : Addr} {xs : List Int32} (hfl : l.flags = flags0)
    (hA : AtStart classFile x code maxLocals ret World_1 tables_1 room_1 Calls_1 rest_1 Pre_1 l p e s m args below) (hroom : s.hasRoom e.platform roomX = true)
    (hb : args = #[.ref b]) (hi : s.IntsAt b xs) (hlen : xs.length = 196) (hxs : ∀ k, k < 196 → xs.getD k 0 = scr k) :
    FallsFor flags0 classFile x code maxLocals ret World_1 tables_1 room_1 Calls_1 rest_1 Pre_1 Post := by
  obtain ⟨hL, hW, ha, hle, hc, hk, hf, hfit, hheap, happ, hcalls, hrest, hpre⟩ := hA
  have happ' : (headSpec (Jvm.Cond.code x code maxLocals ret :: tables_1) roomX).applies x e.platform s = true := by
    obtain ⟨h1, h2, h3, h4, h5, h6, -, h8⟩ := (Spec.applies_iff hf).mp happ
    exact (Spec.applies_iff hf).mpr ⟨h1, h2, h3, h4, h5, h6, hroom, h8⟩
  obtain ⟨k, o, h1, h2, h3, hQ⟩ := rf_walk l hfl b xs hlen hxs p e ha hc hk s m args below hf ((Spec.applies_iff_loose hf).mp happ').1 ⟨hb, hi, by omega, hpre⟩ trivial
  refine ⟨l, p, e, s, m, args, below, hfl, ⟨hL, hW, ha, hle, hc, hk, hf, hfit, hheap, happ, hcalls, hrest, hpre⟩, k, o, h1, h2, h3, fun hP => ?_⟩
  obtain ⟨L, hF⟩ := hPost _ _ _ _ _ _ hP
  have h4 : (stepsAlone p.tables e k s).heap.size ≤ s.heap.size + 167 := hF.2.2.2.2.1
  have h5 : s.heap.size + 168 ≤ (stepsAlone p.tables e k s).heap.size := hQ
  omega
theorem rf_both {l : Launch} {p : Program} {e : Env} {s : State} {m : MethodId} {args : Array Value} {below : List Frame} {b : Addr} {xs : List Int32} (hfl : l.flags = flags0)
    (hA : AtStart classFile x code maxLocals ret World_1 tables_1 room_1 Calls_1 rest_1 Pre_1 l p e s m args below) (hroom : s.hasRoom e.platform roomX = true)
    (hb : args = #[.ref b]) (hi : s.IntsAt b xs) (hlen : xs.length = 196) (hxs : ∀ k, k < 196 → xs.getD k 0 = scr k) : RefutedClaimed_1_1 ∧ RefutedClaimed_1_2 :=
  ⟨rf_falls (fun _ _ _ _ _ _ h => ⟨_, h.2⟩) hfl hA hroom hb hi hlen hxs, rf_falls (fun _ _ _ _ _ _ h => ⟨_, h.2⟩) hfl hA hroom hb hi hlen hxs⟩
