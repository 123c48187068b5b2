/-! numbers: the machine's ints and longs as integers -/
/-! wr and wl are the wraps of 32 and of 64 bits; they are chosen so that no tactic looks into them -/
theorem wr_ex : ∃ f : Int → Int, ∀ x, f x = Int.bmod x 4294967296 := ⟨fun x => Int.bmod x 4294967296, fun _ => rfl⟩
theorem wl_ex : ∃ f : Int → Int, ∀ x, f x = Int.bmod x 18446744073709551616 := ⟨fun x => Int.bmod x 18446744073709551616, fun _ => rfl⟩
noncomputable def wr : Int → Int := Classical.choose wr_ex
noncomputable def wl : Int → Int := Classical.choose wl_ex
theorem wr_def (x : Int) : wr x = Int.bmod x 4294967296 := Classical.choose_spec wr_ex x
theorem wl_def (x : Int) : wl x = Int.bmod x 18446744073709551616 := Classical.choose_spec wl_ex x
def ok32 (x : Int) : Prop := -2147483648 ≤ x ∧ x < 2147483648
def ok64 (x : Int) : Prop := -9223372036854775808 ≤ x ∧ x < 9223372036854775808
theorem wr_id {x : Int} (h1 : -2147483648 ≤ x) (h2 : x < 2147483648) : wr x = x := by
  rw [wr_def, Int.bmod_def]; split <;> omega
theorem wl_id {x : Int} (h1 : -9223372036854775808 ≤ x) (h2 : x < 9223372036854775808) : wl x = x := by
  rw [wl_def, Int.bmod_def]; split <;> omega
theorem ok32_wr (x : Int) : ok32 (wr x) := by
  rw [wr_def]; unfold ok32; rw [Int.bmod_def]; split <;> omega
theorem ok64_wl (x : Int) : ok64 (wl x) := by
  rw [wl_def]; unfold ok64; rw [Int.bmod_def]; split <;> omega
theorem i32_wr (x : Int) : Int32.ofInt (wr x) = Int32.ofInt x := by
  apply Int32.toInt_inj.mp
  rw [Int32.toInt_ofInt, Int32.toInt_ofInt, wr_def]
  exact Int.bmod_bmod
theorem i64_wl (x : Int) : Int64.ofInt (wl x) = Int64.ofInt x := by
  apply Int64.toInt_inj.mp
  rw [Int64.toInt_ofInt, Int64.toInt_ofInt, wl_def]
  exact Int.bmod_bmod
theorem t32 {x : Int} (h : ok32 x) : (Int32.ofInt x).toInt = x := by
  rw [Int32.toInt_ofInt]
  have := wr_id h.1 h.2
  rw [wr_def] at this
  exact this
theorem t64 {x : Int} (h : ok64 x) : (Int64.ofInt x).toInt = x := by
  rw [Int64.toInt_ofInt]
  have := wl_id h.1 h.2
  rw [wl_def] at this
  exact this
theorem ok32_toInt (x : Int32) : ok32 x.toInt := ⟨Int32.le_toInt x, Int32.toInt_lt x⟩
theorem ok64_toInt (x : Int64) : ok64 x.toInt := ⟨Int64.le_toInt x, Int64.toInt_lt x⟩
theorem o32_toInt (x : Int32) : Int32.ofInt x.toInt = x := Int32.ofInt_toInt x
theorem o64_toInt (x : Int64) : Int64.ofInt x.toInt = x := Int64.ofInt_toInt x
theorem i32_add (a b : Int) : Int32.ofInt a + Int32.ofInt b = Int32.ofInt (wr (a + b)) := by rw [i32_wr, Int32.ofInt_add]
theorem i32_sub (a b : Int) : Int32.ofInt a - Int32.ofInt b = Int32.ofInt (wr (a - b)) := by rw [i32_wr, Int32.ofInt_sub]
theorem i32_mul (a b : Int) : Int32.ofInt a * Int32.ofInt b = Int32.ofInt (wr (a * b)) := by rw [i32_wr, Int32.ofInt_mul]
theorem i32_neg (a : Int) : - Int32.ofInt a = Int32.ofInt (wr (- a)) := by rw [i32_wr, Int32.ofInt_neg]
theorem i64_add (a b : Int) : Int64.ofInt a + Int64.ofInt b = Int64.ofInt (wl (a + b)) := by rw [i64_wl, Int64.ofInt_add]
theorem i64_sub (a b : Int) : Int64.ofInt a - Int64.ofInt b = Int64.ofInt (wl (a - b)) := by rw [i64_wl, Int64.ofInt_sub]
theorem i64_mul (a b : Int) : Int64.ofInt a * Int64.ofInt b = Int64.ofInt (wl (a * b)) := by rw [i64_wl, Int64.ofInt_mul]
def iand (a b : Int) : Int := (Int32.ofInt a &&& Int32.ofInt b).toInt
def ior (a b : Int) : Int := (Int32.ofInt a ||| Int32.ofInt b).toInt
def ixor (a b : Int) : Int := (Int32.ofInt a ^^^ Int32.ofInt b).toInt
def ishl (a b : Int) : Int := (Int32.ofInt a <<< (Int32.ofInt b &&& 31)).toInt
def ishr (a b : Int) : Int := (Int32.ofInt a >>> (Int32.ofInt b &&& 31)).toInt
def iushr (a b : Int) : Int := ((Int32.ofInt a).toUInt32 >>> ((Int32.ofInt b).toUInt32 &&& Int32.toUInt32 31)).toInt32.toInt
theorem i32_lt {a b : Int} (ha : ok32 a) (hb : ok32 b) : (Int32.ofInt a < Int32.ofInt b) ↔ a < b := by rw [Int32.lt_iff_toInt_lt, t32 ha, t32 hb]
theorem i32_le {a b : Int} (ha : ok32 a) (hb : ok32 b) : (Int32.ofInt a ≤ Int32.ofInt b) ↔ a ≤ b := by rw [Int32.le_iff_toInt_le, t32 ha, t32 hb]
theorem i32_eq {a b : Int} (ha : ok32 a) (hb : ok32 b) : (Int32.ofInt a = Int32.ofInt b) ↔ a = b := by rw [← Int32.toInt_inj, t32 ha, t32 hb]
theorem i64_lt {a b : Int} (ha : ok64 a) (hb : ok64 b) : (Int64.ofInt a < Int64.ofInt b) ↔ a < b := by rw [Int64.lt_iff_toInt_lt, t64 ha, t64 hb]
theorem i64_eq {a b : Int} (ha : ok64 a) (hb : ok64 b) : (Int64.ofInt a = Int64.ofInt b) ↔ a = b := by rw [← Int64.toInt_inj, t64 ha, t64 hb]
theorem ok32_0 : ok32 0 := by unfold ok32; omega
theorem ok64_0 : ok64 0 := by unfold ok64; omega
theorem i32_zero : Int32.ofInt 0 = 0 := by decide
theorem i32_div {a b : Int} (ha : ok32 a) (hb : ok32 b) : Int32.ofInt a / Int32.ofInt b = Int32.ofInt (wr (a.tdiv b)) := by
  apply Int32.toInt_inj.mp
  rw [Int32.toInt_div, i32_wr, t32 ha, t32 hb, Int32.toInt_ofInt]
theorem i64_div {a b : Int} (ha : ok64 a) (hb : ok64 b) : Int64.ofInt a / Int64.ofInt b = Int64.ofInt (wl (a.tdiv b)) := by
  apply Int64.toInt_inj.mp
  rw [Int64.toInt_div, i64_wl, t64 ha, t64 hb, Int64.toInt_ofInt]
theorem tmod_eq (a b : Int) : a - a.tdiv b * b = a.tmod b := by
  have := Int.tmod_add_mul_tdiv a b
  rw [Int.mul_comm] at this
  omega
theorem i32_rem {a b : Int} (ha : ok32 a) (hb : ok32 b) : Int32.ofInt a - Int32.ofInt a / Int32.ofInt b * Int32.ofInt b = Int32.ofInt (wr (a.tmod b)) := by
  rw [i32_div ha hb, i32_wr, ← Int32.ofInt_mul, ← Int32.ofInt_sub, tmod_eq, i32_wr]
theorem i64_rem {a b : Int} (ha : ok64 a) (hb : ok64 b) : Int64.ofInt a - Int64.ofInt a / Int64.ofInt b * Int64.ofInt b = Int64.ofInt (wl (a.tmod b)) := by
  rw [i64_div ha hb, i64_wl, ← Int64.ofInt_mul, ← Int64.ofInt_sub, tmod_eq, i64_wl]
theorem i32_i2l {a : Int} (ha : ok32 a) : (Int32.ofInt a).toInt64 = Int64.ofInt a := by
  apply Int64.toInt_inj.mp
  have h64 : ok64 a := by unfold ok32 at ha; unfold ok64; omega
  rw [t64 h64, Int32.toInt_toInt64, t32 ha]
theorem i64_l2i {a : Int} (ha : ok64 a) : (Int64.ofInt a).toInt32 = Int32.ofInt (wr a) := by
  apply Int32.toInt_inj.mp
  rw [Int64.toInt_toInt32, t64 ha, i32_wr, Int32.toInt_ofInt]
theorem ok32_64 {a : Int} (ha : ok32 a) : ok64 a := by unfold ok32 at ha; unfold ok64; omega
theorem i32_nat {a : Int} (h0 : 0 ≤ a) (ha : ok32 a) : (Int32.ofInt a).toNatClampNeg = a.toNat := by
  show (Int32.ofInt a).toInt.toNat = _
  rw [t32 ha]
theorem i32_in {a : Int} {n : Nat} (ha : ok32 a) (h0 : 0 ≤ a) (hn : a < n) : vp_in (Int32.ofInt a) n := by
  intro h
  rcases h with h | h
  · have : (Int32.ofInt a).toInt < (0 : Int32).toInt := Int32.lt_iff_toInt_lt.mp h
    rw [t32 ha] at this
    have e : (0 : Int32).toInt = 0 := by decide
    omega
  · rw [i32_nat h0 ha] at h
    omega
