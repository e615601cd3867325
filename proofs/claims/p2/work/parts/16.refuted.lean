/-- the array that holds the trapping script -/
def rf_cells : Array Value := #[.int 0, .int 4, .int 1, .int 0, .int 0, .int 6, .int 224, .int 0, .int 2, .int 6, .int 1024, .int 0, .int 4, .int 1, .int 0, .int 0, .int 5, .int 4, .int 0, .int 0, .int 5, .int 4, .int 0, .int 0, .int 5, .int 4, .int 0, .int 0, .int 5, .int 4, .int 0, .int 0, .int 5, .int 4, .int 0, .int 0, .int 5, .int 4, .int 0, .int 0, .int 5, .int 4, .int 0, .int 0, .int 5, .int 4, .int 0, .int 0, .int 5, .int 4, .int 0, .int 0, .int 5, .int 4, .int 0, .int 0, .int 5, .int 4, .int 0, .int 0, .int 5, .int 4, .int 0, .int 0, .int 5, .int 4, .int 0, .int 0, .int 5, .int 4, .int 0, .int 0, .int 5, .int 4, .int 0, .int 0, .int 5, .int 4, .int 0, .int 0, .int 5, .int 4, .int 0, .int 0, .int 5, .int 4, .int 0, .int 0, .int 5, .int 4, .int 0, .int 0, .int 5, .int 4, .int 0, .int 0, .int 5, .int 4, .int 0, .int 0, .int 5, .int 4, .int 0, .int 0, .int 5, .int 4, .int 0, .int 0, .int 5, .int 4, .int 0, .int 0, .int 5, .int 4, .int 0, .int 0, .int 5, .int 4, .int 0, .int 0, .int 5, .int 4, .int 0, .int 0, .int 5, .int 4, .int 0, .int 0, .int 5, .int 4, .int 0, .int 0, .int 5, .int 4, .int 0, .int 0, .int 5, .int 4, .int 0, .int 0, .int 5, .int 4, .int 0, .int 0, .int 5, .int 4, .int 0, .int 0, .int 5, .int 4, .int 0, .int 0, .int 5, .int 4, .int 0, .int 0, .int 5, .int 4, .int 0, .int 0, .int 5, .int 4, .int 0, .int 0, .int 5, .int 4, .int 0, .int 0, .int 5, .int 4, .int 0, .int 0, .int 5, .int 4, .int 0, .int 0, .int 5, .int 4, .int 0, .int 0, .int 5, .int 4, .int 0, .int 0, .int 5, .int 4, .int 0, .int 0, .int 5, .int 4, .int 0, .int 0, .int 5, .int 4, .int 0, .int 0]
/-- the printed start, with that array in its cell -/
def rf_state : State := start1.aboutOf rf_cells
theorem rf_vm : rf_state.vm = start1.about.vm := rfl
theorem rf_code {x : MethodName} {bytes : ByteArray} {n : Nat} {r : Option FieldType} {a : Array Value} {s t : State} (h : t.vm = s.vm) (hs : (Cond.code x bytes n r).before a s = true) : (Cond.code x bytes n r).before a t = true := by
  have h1 : t.methodNamed? = s.methodNamed? := by
    funext y
    simp only [State.methodNamed?, h]
  simpa [Cond.before, Cond.holds, Cond.value, h1, h] using hs
theorem rf_codes (c : Cond) (hc : su_isCode c = true) (hs : c.before start1.args0 start1.about = true) : c.before start1.args0 rf_state = true := by
  cases c with
  | code x b n r => exact rf_code rf_vm hs
  | _ => cases hc
set_option maxRecDepth 16384 in
theorem rf_o1_0 : ((tables_1_1.drop 0).take 40).all (fun c => su_isCode c || c.before start1.args0 rf_state) = true := by decide +kernel
set_option maxRecDepth 16384 in
theorem rf_o1_1 : ((tables_1_1.drop 40).take 40).all (fun c => su_isCode c || c.before start1.args0 rf_state) = true := by decide +kernel
set_option maxRecDepth 16384 in
theorem rf_o1_2 : ((tables_1_1.drop 80).take 40).all (fun c => su_isCode c || c.before start1.args0 rf_state) = true := by decide +kernel
set_option maxRecDepth 16384 in
theorem rf_o1_3 : ((tables_1_1.drop 120).take 40).all (fun c => su_isCode c || c.before start1.args0 rf_state) = true := by decide +kernel
set_option maxRecDepth 16384 in
theorem rf_o1_4 : ((tables_1_1.drop 160).take 40).all (fun c => su_isCode c || c.before start1.args0 rf_state) = true := by decide +kernel
set_option maxRecDepth 16384 in
theorem rf_o1_5 : ((tables_1_1.drop 200).take 40).all (fun c => su_isCode c || c.before start1.args0 rf_state) = true := by decide +kernel
set_option maxRecDepth 16384 in
theorem rf_o1_6 : ((tables_1_1.drop 240).take 40).all (fun c => su_isCode c || c.before start1.args0 rf_state) = true := by decide +kernel
set_option maxRecDepth 16384 in
theorem rf_o1_7 : ((tables_1_1.drop 280).take 40).all (fun c => su_isCode c || c.before start1.args0 rf_state) = true := by decide +kernel
theorem rf_len1 : tables_1_1.length ≤ 320 := by decide +kernel
set_option maxRecDepth 16384 in
theorem rf_o2_0 : ((tables_1_2.drop 0).take 40).all (fun c => su_isCode c || c.before start1.args0 rf_state) = true := by decide +kernel
set_option maxRecDepth 16384 in
theorem rf_o2_1 : ((tables_1_2.drop 40).take 40).all (fun c => su_isCode c || c.before start1.args0 rf_state) = true := by decide +kernel
set_option maxRecDepth 16384 in
theorem rf_o2_2 : ((tables_1_2.drop 80).take 40).all (fun c => su_isCode c || c.before start1.args0 rf_state) = true := by decide +kernel
set_option maxRecDepth 16384 in
theorem rf_o2_3 : ((tables_1_2.drop 120).take 40).all (fun c => su_isCode c || c.before start1.args0 rf_state) = true := by decide +kernel
set_option maxRecDepth 16384 in
theorem rf_o2_4 : ((tables_1_2.drop 160).take 40).all (fun c => su_isCode c || c.before start1.args0 rf_state) = true := by decide +kernel
set_option maxRecDepth 16384 in
theorem rf_o2_5 : ((tables_1_2.drop 200).take 40).all (fun c => su_isCode c || c.before start1.args0 rf_state) = true := by decide +kernel
set_option maxRecDepth 16384 in
theorem rf_o2_6 : ((tables_1_2.drop 240).take 40).all (fun c => su_isCode c || c.before start1.args0 rf_state) = true := by decide +kernel
set_option maxRecDepth 16384 in
theorem rf_o2_7 : ((tables_1_2.drop 280).take 40).all (fun c => su_isCode c || c.before start1.args0 rf_state) = true := by decide +kernel
theorem rf_len2 : tables_1_2.length ≤ 320 := by decide +kernel
set_option maxRecDepth 16384 in
theorem rf_o3_0 : ((tables_1_3.drop 0).take 40).all (fun c => su_isCode c || c.before start1.args0 rf_state) = true := by decide +kernel
set_option maxRecDepth 16384 in
theorem rf_o3_1 : ((tables_1_3.drop 40).take 40).all (fun c => su_isCode c || c.before start1.args0 rf_state) = true := by decide +kernel
set_option maxRecDepth 16384 in
theorem rf_o3_2 : ((tables_1_3.drop 80).take 40).all (fun c => su_isCode c || c.before start1.args0 rf_state) = true := by decide +kernel
set_option maxRecDepth 16384 in
theorem rf_o3_3 : ((tables_1_3.drop 120).take 40).all (fun c => su_isCode c || c.before start1.args0 rf_state) = true := by decide +kernel
set_option maxRecDepth 16384 in
theorem rf_o3_4 : ((tables_1_3.drop 160).take 40).all (fun c => su_isCode c || c.before start1.args0 rf_state) = true := by decide +kernel
set_option maxRecDepth 16384 in
theorem rf_o3_5 : ((tables_1_3.drop 200).take 40).all (fun c => su_isCode c || c.before start1.args0 rf_state) = true := by decide +kernel
set_option maxRecDepth 16384 in
theorem rf_o3_6 : ((tables_1_3.drop 240).take 40).all (fun c => su_isCode c || c.before start1.args0 rf_state) = true := by decide +kernel
set_option maxRecDepth 16384 in
theorem rf_o3_7 : ((tables_1_3.drop 280).take 40).all (fun c => su_isCode c || c.before start1.args0 rf_state) = true := by decide +kernel
theorem rf_len3 : tables_1_3.length ≤ 320 := by decide +kernel
set_option maxRecDepth 16384 in
theorem rf_o4_0 : ((tables_1_4.drop 0).take 40).all (fun c => su_isCode c || c.before start1.args0 rf_state) = true := by decide +kernel
set_option maxRecDepth 16384 in
theorem rf_o4_1 : ((tables_1_4.drop 40).take 40).all (fun c => su_isCode c || c.before start1.args0 rf_state) = true := by decide +kernel
set_option maxRecDepth 16384 in
theorem rf_o4_2 : ((tables_1_4.drop 80).take 40).all (fun c => su_isCode c || c.before start1.args0 rf_state) = true := by decide +kernel
set_option maxRecDepth 16384 in
theorem rf_o4_3 : ((tables_1_4.drop 120).take 40).all (fun c => su_isCode c || c.before start1.args0 rf_state) = true := by decide +kernel
set_option maxRecDepth 16384 in
theorem rf_o4_4 : ((tables_1_4.drop 160).take 40).all (fun c => su_isCode c || c.before start1.args0 rf_state) = true := by decide +kernel
set_option maxRecDepth 16384 in
theorem rf_o4_5 : ((tables_1_4.drop 200).take 40).all (fun c => su_isCode c || c.before start1.args0 rf_state) = true := by decide +kernel
set_option maxRecDepth 16384 in
theorem rf_o4_6 : ((tables_1_4.drop 240).take 40).all (fun c => su_isCode c || c.before start1.args0 rf_state) = true := by decide +kernel
set_option maxRecDepth 16384 in
theorem rf_o4_7 : ((tables_1_4.drop 280).take 40).all (fun c => su_isCode c || c.before start1.args0 rf_state) = true := by decide +kernel
theorem rf_len4 : tables_1_4.length ≤ 320 := by decide +kernel
set_option maxRecDepth 16384 in
theorem rf_o5_0 : ((tables_1_5.drop 0).take 40).all (fun c => su_isCode c || c.before start1.args0 rf_state) = true := by decide +kernel
set_option maxRecDepth 16384 in
theorem rf_o5_1 : ((tables_1_5.drop 40).take 40).all (fun c => su_isCode c || c.before start1.args0 rf_state) = true := by decide +kernel
set_option maxRecDepth 16384 in
theorem rf_o5_2 : ((tables_1_5.drop 80).take 40).all (fun c => su_isCode c || c.before start1.args0 rf_state) = true := by decide +kernel
set_option maxRecDepth 16384 in
theorem rf_o5_3 : ((tables_1_5.drop 120).take 40).all (fun c => su_isCode c || c.before start1.args0 rf_state) = true := by decide +kernel
set_option maxRecDepth 16384 in
theorem rf_o5_4 : ((tables_1_5.drop 160).take 40).all (fun c => su_isCode c || c.before start1.args0 rf_state) = true := by decide +kernel
set_option maxRecDepth 16384 in
theorem rf_o5_5 : ((tables_1_5.drop 200).take 40).all (fun c => su_isCode c || c.before start1.args0 rf_state) = true := by decide +kernel
set_option maxRecDepth 16384 in
theorem rf_o5_6 : ((tables_1_5.drop 240).take 40).all (fun c => su_isCode c || c.before start1.args0 rf_state) = true := by decide +kernel
set_option maxRecDepth 16384 in
theorem rf_o5_7 : ((tables_1_5.drop 280).take 40).all (fun c => su_isCode c || c.before start1.args0 rf_state) = true := by decide +kernel
theorem rf_len5 : tables_1_5.length ≤ 320 := by decide +kernel
theorem rf_drop {l : List Cond} {f : Cond → Bool} (hl : l.length ≤ 320) (h : ∀ j, j < 8 → ((l.drop (40 * j)).take 40).all f = true) : ∀ c ∈ l, f c = true := by
  intro c hc
  obtain ⟨i, hi, rfl⟩ := List.mem_iff_getElem.mp hc
  have h1 := List.all_eq_true.mp (h (i / 40) (by omega)) l[i]
  apply h1
  refine List.mem_iff_getElem.mpr ⟨i - 40 * (i / 40), ?_, ?_⟩
  · simp only [List.length_take, List.length_drop]; omega
  · simp only [List.getElem_take, List.getElem_drop]; congr 1; omega
theorem rf_split {l : List Cond} (hs : ∀ c ∈ l, c.before start1.args0 start1.about = true) (h : ∀ c ∈ l, (su_isCode c || c.before start1.args0 rf_state) = true) : ∀ c ∈ l, c.before start1.args0 rf_state = true := by
  intro c hc
  rcases Bool.or_eq_true _ _ ▸ h c hc with h1 | h1
  · exact rf_codes c h1 (hs c hc)
  · exact h1
theorem rf_w1 : ∀ c ∈ tables_1_1, c.before start1.args0 rf_state = true := rf_split start1.words_1 (rf_drop rf_len1 (fun j hj => by
  match j, hj with
  | 0, _ => exact rf_o1_0
  | 1, _ => exact rf_o1_1
  | 2, _ => exact rf_o1_2
  | 3, _ => exact rf_o1_3
  | 4, _ => exact rf_o1_4
  | 5, _ => exact rf_o1_5
  | 6, _ => exact rf_o1_6
  | 7, _ => exact rf_o1_7))
theorem rf_w2 : ∀ c ∈ tables_1_2, c.before start1.args0 rf_state = true := rf_split start1.words_2 (rf_drop rf_len2 (fun j hj => by
  match j, hj with
  | 0, _ => exact rf_o2_0
  | 1, _ => exact rf_o2_1
  | 2, _ => exact rf_o2_2
  | 3, _ => exact rf_o2_3
  | 4, _ => exact rf_o2_4
  | 5, _ => exact rf_o2_5
  | 6, _ => exact rf_o2_6
  | 7, _ => exact rf_o2_7))
theorem rf_w3 : ∀ c ∈ tables_1_3, c.before start1.args0 rf_state = true := rf_split start1.words_3 (rf_drop rf_len3 (fun j hj => by
  match j, hj with
  | 0, _ => exact rf_o3_0
  | 1, _ => exact rf_o3_1
  | 2, _ => exact rf_o3_2
  | 3, _ => exact rf_o3_3
  | 4, _ => exact rf_o3_4
  | 5, _ => exact rf_o3_5
  | 6, _ => exact rf_o3_6
  | 7, _ => exact rf_o3_7))
theorem rf_w4 : ∀ c ∈ tables_1_4, c.before start1.args0 rf_state = true := rf_split start1.words_4 (rf_drop rf_len4 (fun j hj => by
  match j, hj with
  | 0, _ => exact rf_o4_0
  | 1, _ => exact rf_o4_1
  | 2, _ => exact rf_o4_2
  | 3, _ => exact rf_o4_3
  | 4, _ => exact rf_o4_4
  | 5, _ => exact rf_o4_5
  | 6, _ => exact rf_o4_6
  | 7, _ => exact rf_o4_7))
theorem rf_w5 : ∀ c ∈ tables_1_5, c.before start1.args0 rf_state = true := rf_split start1.words_5 (rf_drop rf_len5 (fun j hj => by
  match j, hj with
  | 0, _ => exact rf_o5_0
  | 1, _ => exact rf_o5_1
  | 2, _ => exact rf_o5_2
  | 3, _ => exact rf_o5_3
  | 4, _ => exact rf_o5_4
  | 5, _ => exact rf_o5_5
  | 6, _ => exact rf_o5_6
  | 7, _ => exact rf_o5_7))
theorem rf_words : ∀ c ∈ (Cond.code x code maxLocals ret :: tables_1), c.before start1.args0 rf_state = true := by
  intro c hc
  rcases List.mem_cons.mp hc with h | h
  · subst h; exact rf_code rf_vm start1.word_code
  · have h1 : c ∈ tables_1_1 ++ (tables_1_2 ++ (tables_1_3 ++ (tables_1_4 ++ tables_1_5))) := h
    simp only [List.mem_append] at h1
    rcases h1 with h1 | h1 | h1 | h1 | h1
    · exact rf_w1 c h1
    · exact rf_w2 c h1
    · exact rf_w3 c h1
    · exact rf_w4 c h1
    · exact rf_w5 c h1
def rf_xs : List Int32 := (List.range 196).map scr
set_option maxRecDepth 100000 in
theorem rf_ints : rf_state.IntsAt 0 rf_xs := ⟨{ cls := 20, slots := rf_cells, vm := .none }, by first | rfl | decide +kernel, by first | rfl | decide +kernel, ⟨fun k h => (by cases h), start1.cArr "[I" 19 .int, rfl, 19, rfl⟩, by decide +kernel⟩
theorem rf_scr : ∀ k, k < 196 → rf_xs.getD k 0 = scr k := fun k h => by simp [rf_xs, h]
theorem rf_room1 : rf_state.hasRoom start1.e0.platform room_1 = true := launch0.hasRoom_least _ room_1 (by decide +kernel) (by decide +kernel) (by decide +kernel) (by decide +kernel) (by decide +kernel) (by decide +kernel)
theorem rf_roomX : rf_state.hasRoom start1.e0.platform roomX = true := launch0.hasRoom_least _ roomX (by decide +kernel) (by decide +kernel) (by decide +kernel) (by decide +kernel) (by decide +kernel) (by decide +kernel)
set_option maxRecDepth 16384 in
theorem rf_start : AtStart classFile x code maxLocals ret World_1 tables_1 room_1 Calls_1 rest_1 Pre_1 launch0 start1.p0 start1.e0 rf_state ⟨0, 0⟩ start1.args0 Lib.HandBits.below0 := by
  obtain ⟨k1, k2, k3, k4, k5, k6, -⟩ := start1.atStart
  exact ⟨k1, k2, k3, k4, k5, k6, rfl, by decide +kernel, by decide +kernel, (Spec.applies_iff rfl).mpr ⟨rfl, rfl, rfl, by decide +kernel, by decide +kernel, by decide +kernel, rf_room1, atoms_intro rf_words⟩, trivial, (show rest_1_c.before start1.args0 rf_state = true by decide +kernel), (show (Cond.and given_1 narrow_1).before start1.args0 rf_state = true by decide +kernel)⟩
/-- both limbs of the statement are false -/
theorem rf_refuted : RefutedClaimed_1_1 ∧ RefutedClaimed_1_2 := rf_both (l := launch0) (b := 0) (xs := rf_xs) rfl rf_start rf_roomX rfl rf_ints (by simp [rf_xs]) rf_scr
