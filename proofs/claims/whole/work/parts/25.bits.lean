/-! Integer.bitCount -/
noncomputable def bA (x : Int) : Int := wr (x - iand (iushr x 1) 1431655765)
noncomputable def bB (a : Int) : Int := wr (iand a 858993459 + iand (iushr a 2) 858993459)
noncomputable def bC (b : Int) : Int := iand (wr (b + iushr b 4)) 252645135
noncomputable def bD (c : Int) : Int := wr (c + iushr c 8)
noncomputable def bE (d : Int) : Int := wr (d + iushr d 16)
def bA' (x : Int) : Int := Int.bmod (x - iand (iushr x 1) 1431655765) 4294967296
def bB' (a : Int) : Int := Int.bmod (iand a 858993459 + iand (iushr a 2) 858993459) 4294967296
def bC' (b : Int) : Int := iand (Int.bmod (b + iushr b 4) 4294967296) 252645135
def bD' (c : Int) : Int := Int.bmod (c + iushr c 8) 4294967296
def bE' (d : Int) : Int := Int.bmod (d + iushr d 16) 4294967296
theorem bA_eq (x : Int) : bA x = bA' x := by unfold bA bA'; rw [wr_def]
theorem bB_eq (x : Int) : bB x = bB' x := by unfold bB bB'; rw [wr_def]
theorem bC_eq (x : Int) : bC x = bC' x := by unfold bC bC'; rw [wr_def]
theorem bD_eq (x : Int) : bD x = bD' x := by unfold bD bD'; rw [wr_def]
theorem bE_eq (x : Int) : bE x = bE' x := by unfold bE bE'; rw [wr_def]
theorem bF_pcn (x : Nat) (hx : x < 512) : iand (bE (bD (bC (bB (bA (x : Int)))))) 63 = ((pcn x : Nat) : Int) := by
  have h : ∀ x : Fin 512, iand (bE' (bD' (bC' (bB' (bA' ((x : Nat) : Int)))))) 63 = ((pcn (x : Nat) : Nat) : Int) := by decide +kernel
  rw [bA_eq, bB_eq, bC_eq, bD_eq, bE_eq]
  exact h ⟨x, hx⟩
theorem s_Jd_bitCount {h : AH} {x : Nat} {Q : Option AV → AH → Prop} (hx : x < 512) (hq : Q (some (.inl (pcn x))) h) : AM SC m_Jd_bitCount [.inl x] h Q := by
  refine AM_ofF0 rfl rfl (by decide +kernel) (Nat.le_of_ble_eq_true rfl) ?_
  refine ok_Jd_bitCount.go [] 5 0 ?_
  have hq2 : Q (some (.inl (iand (bE (bD (bC (bB (bA (x : Int)))))) 63))) h := by rw [bF_pcn x hx]; exact hq
  exact hq2
