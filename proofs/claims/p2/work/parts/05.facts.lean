/-! THE CLAIM OUT OF ONE WALK OF THE LAW'S BODY. Your part is whole_start (and what it stands on); all else here is the same for every law, but numbers. -/
def R_law : String := "UnibusMachineLaw"
def lw_P (b : Addr) (xs : List Int32) (args : Array Value) (s : State) : Prop := args = #[.ref b] ∧ s.IntsAt b xs ∧ xs.length ≤ 256 ∧ (Jvm.Cond.and given_1 narrow_1).before args s = true
def lw_Q (_ : Array Value) (s : State) (o : Outcome) (t : State) : Prop := o = .returned (some (.int 1)) ∧ Framed s o t [] 167 2606
def lw_Z (below : List Frame) (a : Array Value) (s : State) : State → Prop := fun t => ∃ o, t.status = .running ∧ Ended t below o ∧ lw_Q a s o t
/-- the law's own end, with 1 on the stack, nothing written that was there before, its room as the claim has it -/
theorem lw_ret {p : Program} {l : Launch} {e : Env} {s : State} {m : MethodId} {below : List Frame} {meth : Method} {c : Code} {b : Nat} (hx : p.tables.exec = Jvm.exec) (hb : c.code = code) (hr : meth.sig.returnType = ret) (hlocks : meth.locks = false) {pc : Nat} {H : Heap} {ls : Array Slot} (hdg : decode code pc = .ok (.ireturn, 1)) : W p l e room_1 s m #[Value.ref b] below meth c H [] 167 2606 (lw_Z below #[Value.ref b] s) (F0 m pc ls [.int 1]) := by
  intro T hT X
  obtain ⟨fs, hret, hrun, hended, hW, hframe⟩ := X.leave (v := some (.int 1)) (hlocks := hlocks) (fun h => by rw [hr] at h; cases h)
  have hmeth' : T.vm.method? m = some meth := X.method'
  refine ⟨T.setFrames fs, ?_, .returned (some (.int 1)), hrun, hended, rfl, ⟨_, rfl⟩, hW, hframe⟩
  jvm_step X.here [X.here.top, hx, hb, hdg, hmeth', hr, ret, narrow_b1]
  (try refine ⟨rfl, ?_⟩); (try refine ⟨rfl, ?_⟩)
  first | (intro acts; rw [hret _ acts rfl rfl rfl]) | rw [hret _ _ rfl rfl rfl]
  exact Steps.refl _
/-- what holds at the law's entry: the machine, the code, the tables' words (any of lw_tbl by 'hts w (by decide +kernel)'), the script of L ints xs at the cell b, what the Statement gives of the start (any of its parts by flat_of_before) -/
def lw_At (p : Program) (s : State) (m : MethodId) (meth : Method) (c : Code) (b L : Nat) (xs : Nat → Int32) : Prop :=
  p.tables.exec = Jvm.exec ∧ c.code = code ∧ meth.sig.returnType = ret ∧ c.maxLocals = 7 ∧ s.vm.findClass R_law = some m.cls ∧ (∀ w ∈ lw_tbl, w.before #[Value.ref b] s = true) ∧ va_X b L xs s s.heap ∧ b < s.heap.size ∧ meth.locks = false ∧ (Jvm.Cond.and given_1 narrow_1).before #[Value.ref b] s = true
-- plain facts of ints
theorem fz_lt {a b : Int32} : a < b ↔ a.toInt < b.toInt := Int32.lt_iff_toInt_lt
theorem fz_le {a b : Int32} : a ≤ b ↔ a.toInt ≤ b.toInt := Int32.le_iff_toInt_le
theorem fz_eq {a b : Int32} : a = b ↔ a.toInt = b.toInt := Int32.toInt_inj.symm
theorem fz_nlt {a b : Int32} : ¬ a < b ↔ b.toInt ≤ a.toInt := by rw [fz_lt]; omega
theorem fz_nle {a b : Int32} : ¬ a ≤ b ↔ b.toInt < a.toInt := by rw [fz_le]; omega
theorem fz_ne {a b : Int32} : ¬ a = b ↔ a.toInt ≠ b.toInt := by rw [fz_eq]
theorem fz_rng (a : Int32) : -2147483648 ≤ a.toInt ∧ a.toInt ≤ 2147483647 := by
  have h1 := Int32.le_toInt a
  have h2 := Int32.toInt_lt a
  omega
theorem fz_bm (x : Int) (h1 : -2147483648 ≤ x) (h2 : x ≤ 2147483647) : x.bmod (2 ^ 32) = x := by
  rw [Int.bmod_def]
  have h : ((2 ^ 32 : Nat) : Int) = 4294967296 := by decide
  rw [h]
  split <;> omega
theorem fz_sub (a b : Int32) (h1 : -2147483648 ≤ a.toInt - b.toInt) (h2 : a.toInt - b.toInt ≤ 2147483647) : (a - b).toInt = a.toInt - b.toInt := by
  rw [Int32.toInt_sub, fz_bm _ h1 h2]
theorem fz_add (a b : Int32) (h1 : -2147483648 ≤ a.toInt + b.toInt) (h2 : a.toInt + b.toInt ≤ 2147483647) : (a + b).toInt = a.toInt + b.toInt := by
  rw [Int32.toInt_add, fz_bm _ h1 h2]
theorem fz_mul (a b : Int32) (h1 : -2147483648 ≤ a.toInt * b.toInt) (h2 : a.toInt * b.toInt ≤ 2147483647) : (a * b).toInt = a.toInt * b.toInt := by
  rw [Int32.toInt_mul, fz_bm _ h1 h2]
theorem fz_16 (a b : Int32) (h1 : 0 ≤ a.toInt) (h2 : a.toInt < 8) (h3 : 0 ≤ b.toInt) (h4 : b.toInt < 16) : (16 * a + b).toInt = 16 * a.toInt + b.toInt := by
  have k : (16 : Int32).toInt = 16 := by decide
  have e1 : (16 * a).toInt = 16 * a.toInt := by rw [fz_mul _ _ (by rw [k]; omega) (by rw [k]; omega), k]
  rw [fz_add _ _ (by rw [e1]; omega) (by rw [e1]; omega), e1]
theorem fz_div2 (a : Int32) (h : 0 ≤ a.toInt) : (a / 2).toInt = a.toInt / 2 := by
  have k : (2 : Int32).toInt = 2 := by decide
  have hr := fz_rng a
  rw [Int32.toInt_div, k, Int.tdiv_eq_ediv_of_nonneg h, fz_bm _ (by omega) (by omega)]
theorem fz_rem2 (a : Int32) (h : 0 ≤ a.toInt) : (a - a / 2 * 2).toInt = a.toInt % 2 := by
  have k : (2 : Int32).toInt = 2 := by decide
  have e := fz_div2 a h
  have hr := fz_rng a
  have e2 : (a / 2 * 2).toInt = a.toInt / 2 * 2 := by rw [fz_mul _ _ (by rw [k, e]; omega) (by rw [k, e]; omega), k, e]
  rw [fz_sub _ _ (by rw [e2]; omega) (by rw [e2]; omega), e2]
  omega
theorem fz_nat (a : Int32) (h : 0 ≤ a.toInt) : ∃ n : Nat, n < 2 ^ 31 ∧ a = nI n ∧ a.toInt = n := by
  have hr := fz_rng a
  refine ⟨a.toInt.toNat, by omega, ?_, by omega⟩
  rw [fz_eq, nI_toInt (by omega)]
  omega
theorem fz_and1 (a : Int32) : (a &&& 1).toInt = a.toInt % 2 := by
  have h1 : (a &&& 1).toInt = (a.toBitVec &&& 1#32).toInt := rfl
  rw [h1, BitVec.toInt_eq_toNat_bmod, BitVec.toNat_and]
  have h2 : a.toInt = a.toBitVec.toInt := rfl
  rw [h2, BitVec.toInt_eq_toNat_bmod]
  have h3 : (1#32).toNat = 1 := rfl
  rw [h3, Nat.and_one_is_mod]
  have h4 := a.toBitVec.isLt
  rw [fz_bm _ (by omega) (by omega), Int.bmod_def]
  have h : ((2 ^ 32 : Nat) : Int) = 4294967296 := by decide
  rw [h]
  split <;> omega
theorem fz_shr1 (a : Int32) (h : 0 ≤ a.toInt) : (a >>> (1 &&& 31)).toInt = a.toInt / 2 := by
  have e : ((1 : Int32) &&& 31) = 1 := by decide
  rw [e]
  have h1 : (a >>> (1 : Int32)).toInt = (a.toBitVec.sshiftRight 1).toInt := rfl
  rw [h1, BitVec.toInt_sshiftRight]
  show a.toInt >>> 1 = _
  rw [Int.shiftRight_eq_div_pow]
  rfl
theorem fz_sw (x : Int32) : x = 0 ∨ x = 1 ∨ x = 2 ∨ x = 3 ∨ x = 4 ∨ x = 5 ∨ x = 6 ∨ x = 7 ∨ x = 8 ∨ x = 9 ∨ x = 10 ∨ x = 11 ∨ (x.toInt < 0 ∨ 11 < x.toInt) := by
  simp only [fz_eq, show (0 : Int32).toInt = 0 from by decide, show (1 : Int32).toInt = 1 from by decide, show (2 : Int32).toInt = 2 from by decide, show (3 : Int32).toInt = 3 from by decide, show (4 : Int32).toInt = 4 from by decide, show (5 : Int32).toInt = 5 from by decide, show (6 : Int32).toInt = 6 from by decide, show (7 : Int32).toInt = 7 from by decide, show (8 : Int32).toInt = 8 from by decide, show (9 : Int32).toInt = 9 from by decide, show (10 : Int32).toInt = 10 from by decide, show (11 : Int32).toInt = 11 from by decide]
  omega
theorem fz_flags (l : Launch) (h : l.flags = flags0) : l.stackTraces = false := by
  unfold Launch.stackTraces
  rw [h]
  decide
/-- what a device register of a new object answers -/
def dv (z : Int) : Int32 := if z = 57428 ∨ z = 57440 then 128 else if (57344 ≤ z ∧ z ≤ 57408 ∧ z % 2 = 0) ∨ z = 57424 ∨ z = 57426 ∨ z = 57430 ∨ z = 57442 ∨ z = 57444 ∨ z = 57446 ∨ z = 57470 then 0 else -1
theorem dv_pos {z : Int} (h : z = 57428 ∨ z = 57440) : (128 : Int32) = dv z := by unfold dv; rw [if_pos h]
theorem dv_zero {z : Int} (h : ¬ (z = 57428 ∨ z = 57440)) (h2 : (57344 ≤ z ∧ z ≤ 57408 ∧ z % 2 = 0) ∨ z = 57424 ∨ z = 57426 ∨ z = 57430 ∨ z = 57442 ∨ z = 57444 ∨ z = 57446 ∨ z = 57470) : (0 : Int32) = dv z := by unfold dv; rw [if_neg h, if_pos h2]
theorem dv_neg {z : Int} (h : ¬ (z = 57428 ∨ z = 57440)) (h2 : ¬ ((57344 ≤ z ∧ z ≤ 57408 ∧ z % 2 = 0) ∨ z = 57424 ∨ z = 57426 ∨ z = 57430 ∨ z = 57442 ∨ z = 57444 ∨ z = 57446 ∨ z = 57470)) : (-1 : Int32) = dv z := by unfold dv; rw [if_neg h, if_neg h2]
abbrev rdy : Nat → Int32 := upd (upd (fun _ => 0) (0 : Int32).toNatClampNeg (vp_nar .boolean 1)) (2 : Int32).toNatClampNeg (vp_nar .boolean 1)
theorem fz_mask (a : Int32) (h : 0 ≤ a.toInt) (h2 : a.toInt < 65536) : (a &&& 65535).toInt = a.toInt := by
  have h1 : (a &&& 65535).toInt = (a.toBitVec &&& 65535#32).toInt := rfl
  have h3 : a.toInt = a.toBitVec.toInt := rfl
  have h4 := a.toBitVec.isLt
  have h5 : a.toBitVec.toNat < 65536 := by
    rw [h3, BitVec.toInt_eq_toNat_bmod, Int.bmod_def] at h h2
    have k : ((2 ^ 32 : Nat) : Int) = 4294967296 := by decide
    rw [k] at h h2
    split at h <;> omega
  rw [h1, h3, BitVec.toInt_eq_toNat_bmod, BitVec.toInt_eq_toNat_bmod, BitVec.toNat_and]
  have h6 : (65535#32).toNat = 2 ^ 16 - 1 := rfl
  rw [h6, Nat.and_two_pow_sub_one_eq_mod, Nat.mod_eq_of_lt h5]
theorem fz_m2 (a : Int32) (h : 2 ≤ a.toInt) (h2 : a.toInt < 65536) : ((a - 2) &&& 65535).toInt = a.toInt - 2 := by
  have k : (2 : Int32).toInt = 2 := by decide
  have e : (a - 2).toInt = a.toInt - 2 := by rw [fz_sub _ _ (by rw [k]; omega) (by rw [k]; omega), k]
  rw [fz_mask _ (by rw [e]; omega) (by rw [e]; omega), e]
theorem fz_nc (x k : Int32) (h : k.toInt < x.toInt) (h0 : 0 ≤ k.toInt) : k.toNatClampNeg ≠ x.toNatClampNeg := by
  show k.toInt.toNat ≠ x.toInt.toNat
  omega
