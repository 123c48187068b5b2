/-! FEWEST, told without the programs -/
noncomputable def cand (k w : Nat → Int) (s : Nat) : Bool := decide (wo s (opn k w) = 0) && agr k w (fun r => (opn k w).testBit r && !s.testBit r)
noncomputable def fmN (k w : Nat → Int) : Nat → Int × Nat
  | 0 => (1000000, 0)
  | s + 1 => if cand k w s = true ∧ (pcn s : Int) < (fmN k w s).1 then ((pcn s : Int), s) else fmN k w s
noncomputable def fcN (k w : Nat → Int) : Nat → Nat
  | 0 => opn k w
  | s + 1 => if cand k w s = true ∧ pcn s < pcn (fcN k w s) then s else fcN k w s
theorem agN_none {k w : Nat → Int} {o : Nat → Bool} {T : HS} (n : Nat) (h : ∀ r, r < n → o r = false) : agN k w o T n = true := by
  induction n with
  | zero => rfl
  | succ n ih => unfold agN; rw [ih (fun r hr => h r (by omega)), h n (by omega)]; rfl
theorem cand_all {k w : Nat → Int} (hI : Inv k w) : cand k w (opn k w) = true := by
  have h5 := opn_512 hI
  have e : wo (opn k w) (opn k w) = 0 := (wo_zero h5 h5).mpr (fun i _ h => h)
  unfold cand agr
  rw [decide_eq_true e, agN_none _ (fun r hr => by cases (opn k w).testBit r <;> rfl)]; rfl
theorem cand_in {k w : Nat → Int} (hI : Inv k w) {s : Nat} (hs : s < 512) (h : cand k w s = true) : ∀ i, i < 9 → s.testBit i = true → (opn k w).testBit i = true := by
  unfold cand at h
  have h1 : wo s (opn k w) = 0 := by
    by_cases g : wo s (opn k w) = 0
    · exact g
    · rw [decide_eq_false g] at h; exact absurd h (by simp)
  exact (wo_zero hs (opn_512 hI)).mp h1
theorem few_step {k w : Nat → Int} (hI : Inv k w) (s : Nat) (hs : s ≤ opn k w) : (fmN k w s = (1000000, 0) ∧ fcN k w s = opn k w) ∨ (fmN k w s = ((pcn (fcN k w s) : Int), fcN k w s)) := by
  have h5 := opn_512 hI
  induction s with
  | zero => exact Or.inl ⟨rfl, rfl⟩
  | succ s ih =>
    have s5 : s < 512 := by omega
    have p9 := pcn_le s s5
    unfold fmN fcN
    by_cases hc : cand k w s = true
    · have hlt := pcn_lt s5 h5 (cand_in hI s5 hc) (by omega)
      rcases ih (by omega) with ⟨e1, e2⟩ | e1
      · rw [e1, e2, if_pos ⟨hc, by show (pcn s : Int) < 1000000; omega⟩, if_pos ⟨hc, hlt⟩]
        exact Or.inr rfl
      · rw [e1]
        by_cases g : pcn s < pcn (fcN k w s)
        · rw [if_pos ⟨hc, by show (pcn s : Int) < (pcn (fcN k w s) : Int); omega⟩, if_pos ⟨hc, g⟩]
          exact Or.inr rfl
        · rw [if_neg (fun z => g (by have := z.2; dsimp only at this; omega)), if_neg (fun z => g z.2)]
          exact Or.inr rfl
    · rw [if_neg (fun z => hc z.1), if_neg (fun z => hc z.1)]
      exact ih (by omega)
theorem few_all {k w : Nat → Int} (hI : Inv k w) : (fmN k w (opn k w + 1)).2 = fcN k w (opn k w + 1) := by
  have h5 := opn_512 hI
  have hc := cand_all hI
  have p9 := pcn_le (opn k w) h5
  unfold fmN fcN
  rcases few_step hI (opn k w) (Nat.le_refl _) with ⟨e1, e2⟩ | e1
  · rw [e1, e2, if_pos ⟨hc, by show (pcn (opn k w) : Int) < 1000000; omega⟩, if_neg (fun z => by omega)]
  · rw [e1]
    by_cases g : pcn (opn k w) < pcn (fcN k w (opn k w))
    · rw [if_pos ⟨hc, by show (pcn (opn k w) : Int) < (pcn (fcN k w (opn k w)) : Int); omega⟩, if_pos ⟨hc, g⟩]
    · rw [if_neg (fun z => g (by have := z.2; dsimp only at this; omega)), if_neg (fun z => g z.2)]
theorem few_far {k w : Nat → Int} (hI : Inv k w) (m : Nat) (h : opn k w + 1 + m ≤ 512) : fmN k w (opn k w + 1 + m) = fmN k w (opn k w + 1) := by
  induction m with
  | zero => rfl
  | succ m ih =>
    have e : fmN k w (opn k w + 1 + (m + 1)) = fmN k w (opn k w + 1 + m) := by
      have hc : ¬ cand k w (opn k w + 1 + m) = true := fun z => by
        have := sub_le (by omega) (opn_512 hI) (cand_in hI (by omega) z)
        omega
      show (if cand k w (opn k w + 1 + m) = true ∧ _ then _ else fmN k w (opn k w + 1 + m)) = _
      rw [if_neg (fun z => hc z.1)]
    rw [e]; exact ih (by omega)
theorem okR_40 {k w : Nat → Int} (hI : Inv k w) {T : HS} {r : Nat} (hr : (r : Int) < k 1) (h : okR k w T r = true) : w (4 + r) + w (13 + r) = 40 := by
  have hE := hI.2.2.2.1 r hr
  unfold okR at h
  simp only [Bool.and_eq_true, decide_eq_true_eq] at h
  generalize wr (T.2 (k (23 + r)).toNat - T.2 (k (14 + r)).toNat) = d at h
  have f1 : fig k w r (k (14 + r)) = w (4 + r) := by unfold fig; rw [if_pos rfl]
  have f2 : fig k w r (k (23 + r)) = w (13 + r) := by unfold fig; rw [if_neg hE.2.2.2.1]
  obtain ⟨h1, h2⟩ := h
  unfold chg at h1 h2
  rw [f1] at h1
  rw [f2] at h2
  have hd : -40 ≤ d ∧ d ≤ 40 := by split at h1 <;> omega
  rw [wr_id (by omega) (by omega)] at h2
  split at h1
  · rename_i g; rw [if_pos g] at h2; omega
  · rename_i g; rw [if_neg g] at h2; omega
