/-! THE TEXT, read -/
def chr (tx : Nat → Int) (n i : Nat) : Int := if i < n then tx i else -1
def isD (c : Int) : Bool := decide (48 ≤ c ∧ c ≤ 57)
theorem isD_t {c : Int} : isD c = true ↔ 48 ≤ c ∧ c ≤ 57 := by unfold isD; simp
theorem isD_f {c : Int} (h : ¬ (48 ≤ c ∧ c ≤ 57)) : isD c = false := by unfold isD; exact decide_eq_false h
def num (tx : Nat → Int) (n i : Nat) : Option (Int × Nat) :=
  if isD (chr tx n i) = true then (if isD (chr tx n (i + 1)) = true then some (10 * (chr tx n i - 48) + (chr tx n (i + 1) - 48), i + 2) else some (chr tx n i - 48, i + 1)) else none
theorem chr_lt {tx : Nat → Int} {n i : Nat} (h : 0 ≤ chr tx n i) : i < n := by
  unfold chr at h
  split at h
  · assumption
  · omega
theorem num_ok {tx : Nat → Int} {n i j : Nat} {v : Int} (h : num tx n i = some (v, j)) : (0 ≤ v ∧ v ≤ 99) ∧ i < j ∧ j ≤ n := by
  unfold num at h
  split at h
  · rename_i g
    have g1 := isD_t.mp g
    have l1 := chr_lt (show 0 ≤ chr tx n i by omega)
    split at h
    · rename_i g2
      have g3 := isD_t.mp g2
      have l2 := chr_lt (show 0 ≤ chr tx n (i + 1) by omega)
      cases h; omega
    · cases h; omega
  · cases h
def nms (tx : Nat → Int) (n : Nat) : Nat → Nat → Nat → (Nat → Int) → Option ((Nat → Int) × Nat)
  | 0, _, i, nm => some (nm, i)
  | m + 1, k, i, nm => (num tx n i).bind fun q => if chr tx n q.2 = (if m = 0 then 59 else 44) then nms tx n m (k + 1) (q.2 + 1) (up1 nm k q.1) else none
theorem nms_none {tx : Nat → Int} {n m k i : Nat} {nm : Nat → Int} (h : num tx n i = none) : nms tx n (m + 1) k i nm = none := by
  unfold nms; rw [h]; rfl
theorem nms_some {tx : Nat → Int} {n m k i j : Nat} {v : Int} {nm : Nat → Int} (h : num tx n i = some (v, j)) : nms tx n (m + 1) k i nm = if chr tx n j = (if m = 0 then 59 else 44) then nms tx n m (k + 1) (j + 1) (up1 nm k v) else none := by
  conv => lhs; unfold nms
  rw [h]; rfl
theorem nms_ok {tx : Nat → Int} {n m k i j : Nat} {nm nm' : Nat → Int} (h : nms tx n m k i nm = some (nm', j)) (hi : i ≤ n) (hn : ∀ t, t < k → 0 ≤ nm t ∧ nm t ≤ 99) : (∀ t, t < k + m → 0 ≤ nm' t ∧ nm' t ≤ 99) ∧ i ≤ j ∧ j ≤ n := by
  induction m generalizing k i nm with
  | zero => unfold nms at h; cases h; exact ⟨fun t ht => hn t (by omega), Nat.le_refl _, hi⟩
  | succ m ih =>
    rcases hv : num tx n i with _ | ⟨v, l⟩
    · rw [nms_none hv] at h; cases h
    · rw [nms_some hv] at h
      have hok := num_ok hv
      obtain ⟨x, ex⟩ : ∃ x : Int, x = (if m = 0 then 59 else 44) := ⟨_, rfl⟩
      have x0 : 0 ≤ x := by rw [ex]; split <;> omega
      rw [← ex] at h
      by_cases g : chr tx n l = x
      · rw [if_pos g] at h
        have hl := chr_lt (tx := tx) (n := n) (i := l) (by omega)
        have := ih h (by omega) (fun t ht => by
          unfold up1
          by_cases e : t = k
          · rw [if_pos e]; exact hok.1
          · rw [if_neg e]; exact hn t (by omega))
        exact ⟨fun t ht => this.1 t (by omega), by omega, by omega⟩
      · rw [if_neg g] at h; cases h
def cnt4 (c : Int) : Nat := if c = 110 then 1 else if c = 114 then 5 else if c = 115 then 2 else if c = 106 then 1 else 0
def addR (κ nm : Nat → Int) : Nat → Int := up1 (up1 (up1 (up1 (up1 (up1 κ (5 + (κ 1).toNat) (nm 0)) (14 + (κ 1).toNat) (nm 1)) (23 + (κ 1).toNat) (nm 2)) (32 + (κ 1).toNat) (nm 3)) (41 + (κ 1).toNat) (nm 4)) 1 (κ 1 + 1)
def itmB (κ : Nat → Int) (oN : Bool) (c : Int) (nm : Nat → Int) (j : Nat) : Option ((Nat → Int) × Bool × Nat) :=
  if c = 110 then (if oN = true ∧ 2 ≤ nm 0 ∧ nm 0 ≤ 6 then some (up1 κ 0 (nm 0), oN, j) else none)
  else if c = 114 then (if κ 1 < 9 ∧ nm 0 ≤ 3 ∧ nm 3 ≤ 40 ∧ nm 4 ≤ 40 ∧ nm 1 < κ 0 ∧ nm 2 < κ 0 ∧ nm 1 ≠ nm 2 then some (addR κ nm, false, j) else none)
  else if c = 115 then (if nm 0 < κ 0 then some (up1 (up1 κ 3 (nm 0)) 4 (nm 1), false, j) else none)
  else (if κ 2 < 9 ∧ nm 0 < κ 1 then some (up1 (up1 κ (50 + (κ 2).toNat) (nm 0)) 2 (κ 2 + 1), false, j) else none)
def itm (tx : Nat → Int) (n : Nat) (κ : Nat → Int) (oN : Bool) (i : Nat) : Option ((Nat → Int) × Bool × Nat) :=
  if cnt4 (chr tx n i) = 0 then none else (nms tx n (cnt4 (chr tx n i)) 0 (i + 1) (fun _ => 0)).bind fun q => itmB κ oN (chr tx n i) q.1 q.2
def flt (tx : Nat → Int) (n : Nat) : Nat → (Nat → Int) → Bool → Nat → Int × (Nat → Int)
  | 0, κ, _, _ => (-4, κ)
  | m + 1, κ, oN, i => if i < n then (match itm tx n κ oN i with | none => ((i : Int), κ) | some q => flt tx n m q.1 q.2.1 q.2.2) else (-4, κ)
theorem flt_none {tx κ : Nat → Int} {n m i : Nat} {oN : Bool} (h : i < n) (hi : itm tx n κ oN i = none) : flt tx n (m + 1) κ oN i = ((i : Int), κ) := by
  conv => lhs; unfold flt
  rw [if_pos h, hi]
theorem flt_some {tx κ : Nat → Int} {n m i : Nat} {oN : Bool} {q : (Nat → Int) × Bool × Nat} (h : i < n) (hi : itm tx n κ oN i = some q) : flt tx n (m + 1) κ oN i = flt tx n m q.1 q.2.1 q.2.2 := by
  conv => lhs; unfold flt
  rw [if_pos h, hi]
theorem flt_end {tx κ : Nat → Int} {n m i : Nat} {oN : Bool} (h : ¬ i < n) : flt tx n (m + 1) κ oN i = (-4, κ) := by
  conv => lhs; unfold flt
  rw [if_neg h]
def K00 : Nat → Int := fun j => if j = 0 then 4 else if j = 4 then 50 else 0
def InvR (κ : Nat → Int) : Prop := (2 ≤ κ 0 ∧ κ 0 ≤ 6) ∧ (0 ≤ κ 1 ∧ κ 1 ≤ 9) ∧ (0 ≤ κ 2 ∧ κ 2 ≤ 9) ∧ (0 ≤ κ 3 ∧ κ 3 < κ 0) ∧ (0 ≤ κ 4 ∧ κ 4 ≤ 99) ∧
  (∀ r : Nat, (r : Int) < κ 1 → (0 ≤ κ (5 + r) ∧ κ (5 + r) ≤ 3) ∧ (0 ≤ κ (14 + r) ∧ κ (14 + r) < κ 0) ∧ (0 ≤ κ (23 + r) ∧ κ (23 + r) < κ 0) ∧ κ (14 + r) ≠ κ (23 + r) ∧ (0 ≤ κ (32 + r) ∧ κ (32 + r) ≤ 40) ∧ (0 ≤ κ (41 + r) ∧ κ (41 + r) ≤ 40)) ∧
  (∀ i : Nat, (i : Int) < κ 2 → 0 ≤ κ (50 + i) ∧ κ (50 + i) < κ 1)
def InvO (κ : Nat → Int) (oN : Bool) : Prop := InvR κ ∧ (oN = true → κ 1 = 0 ∧ κ 2 = 0 ∧ κ 3 = 0)
theorem InvO.k00 : InvO K00 true := by
  refine ⟨⟨by decide, by decide, by decide, by decide, by decide, fun r hr => ?_, fun i hi => ?_⟩, fun _ => ⟨rfl, rfl, rfl⟩⟩
  · have : K00 1 = 0 := rfl
    omega
  · have : K00 2 = 0 := rfl
    omega
theorem addR_1 (κ nm : Nat → Int) : addR κ nm 1 = κ 1 + 1 := rfl
theorem addR_lo (κ nm : Nat → Int) (j : Nat) (hj : j ≠ 1) (h : j < 5 ∨ 50 ≤ j) (h9 : κ 1 < 9) : addR κ nm j = κ j := by
  unfold addR up1
  (repeat' split) <;> first | rfl | omega
theorem addR_r (κ nm : Nat → Int) (r : Nat) (hr : r < 9) (h9 : 0 ≤ κ 1 ∧ κ 1 < 9) : addR κ nm (5 + r) = (if (r : Int) = κ 1 then nm 0 else κ (5 + r)) ∧ addR κ nm (14 + r) = (if (r : Int) = κ 1 then nm 1 else κ (14 + r)) ∧ addR κ nm (23 + r) = (if (r : Int) = κ 1 then nm 2 else κ (23 + r)) ∧ addR κ nm (32 + r) = (if (r : Int) = κ 1 then nm 3 else κ (32 + r)) ∧ addR κ nm (41 + r) = (if (r : Int) = κ 1 then nm 4 else κ (41 + r)) := by
  obtain ⟨s, hs⟩ : ∃ s, s = (κ 1).toNat := ⟨_, rfl⟩
  have s9 : s < 9 := by omega
  unfold addR up1
  rw [← hs]
  refine ⟨?_, ?_, ?_, ?_, ?_⟩ <;> by_cases e : (r : Int) = κ 1
  · rw [if_neg (by omega), if_neg (by omega), if_neg (by omega), if_neg (by omega), if_neg (by omega), if_pos (by omega), if_pos e]
  · rw [if_neg (by omega), if_neg (by omega), if_neg (by omega), if_neg (by omega), if_neg (by omega), if_neg (by omega), if_neg e]
  · rw [if_neg (by omega), if_neg (by omega), if_neg (by omega), if_neg (by omega), if_pos (by omega), if_pos e]
  · rw [if_neg (by omega), if_neg (by omega), if_neg (by omega), if_neg (by omega), if_neg (by omega), if_neg (by omega), if_neg e]
  · rw [if_neg (by omega), if_neg (by omega), if_neg (by omega), if_pos (by omega), if_pos e]
  · rw [if_neg (by omega), if_neg (by omega), if_neg (by omega), if_neg (by omega), if_neg (by omega), if_neg (by omega), if_neg e]
  · rw [if_neg (by omega), if_neg (by omega), if_pos (by omega), if_pos e]
  · rw [if_neg (by omega), if_neg (by omega), if_neg (by omega), if_neg (by omega), if_neg (by omega), if_neg (by omega), if_neg e]
  · rw [if_neg (by omega), if_pos (by omega), if_pos e]
  · rw [if_neg (by omega), if_neg (by omega), if_neg (by omega), if_neg (by omega), if_neg (by omega), if_neg (by omega), if_neg e]
theorem itmB_ok {κ κ' nm : Nat → Int} {oN oN' : Bool} {c : Int} {j j' m : Nat} (hI : InvO κ oN) (hm : m = cnt4 c) (h0 : m ≠ 0) (hn : ∀ t, t < m → 0 ≤ nm t ∧ nm t ≤ 99) (h : itmB κ oN c nm j = some (κ', oN', j')) : InvO κ' oN' ∧ j' = j := by
  obtain ⟨⟨i0, i1, i2, i3, i4, i5, i6⟩, io⟩ := hI
  unfold itmB at h
  unfold cnt4 at hm
  split at h
  · rename_i hc
    split at h
    · rename_i g
      rw [if_pos hc] at hm
      have n0 := hn 0 (by omega)
      have o1 := io g.1
      cases h
      refine ⟨⟨⟨by show 2 ≤ nm 0 ∧ nm 0 ≤ 6; omega, by show 0 ≤ κ 1 ∧ κ 1 ≤ 9; omega, by show 0 ≤ κ 2 ∧ κ 2 ≤ 9; omega, by show 0 ≤ κ 3 ∧ κ 3 < nm 0; omega, i4, fun r hr => ?_, fun i hi => ?_⟩, fun _ => o1⟩, rfl⟩
      · exfalso; have : (r : Int) < κ 1 := hr; omega
      · exfalso; have : (i : Int) < κ 2 := hi; omega
    · cases h
  · rename_i hc
    rw [if_neg hc] at hm
    split at h
    · rename_i hc2
      rw [if_pos hc2] at hm
      split at h
      · rename_i g
        have n0 := hn 0 (by omega)
        have n1 := hn 1 (by omega)
        have n2 := hn 2 (by omega)
        have n3 := hn 3 (by omega)
        have n4 := hn 4 (by omega)
        cases h
        have e0 := addR_lo κ nm 0 (by omega) (by omega) g.1
        have e2 := addR_lo κ nm 2 (by omega) (by omega) g.1
        have e3 := addR_lo κ nm 3 (by omega) (by omega) g.1
        have e4 := addR_lo κ nm 4 (by omega) (by omega) g.1
        have e1 := addR_1 κ nm
        refine ⟨⟨⟨by rw [e0]; exact i0, by rw [e1]; omega, by rw [e2]; exact i2, by rw [e0, e3]; exact i3, by rw [e4]; exact i4, fun r hr => ?_, fun i hi => ?_⟩, fun z => by cases z⟩, rfl⟩
        · rw [e1] at hr
          obtain ⟨f1, f2, f3, f4, f5⟩ := addR_r κ nm r (by omega) ⟨i1.1, g.1⟩
          rw [f1, f2, f3, f4, f5, e0]
          by_cases e : (r : Int) = κ 1
          · rw [if_pos e, if_pos e, if_pos e, if_pos e, if_pos e]
            omega
          · rw [if_neg e, if_neg e, if_neg e, if_neg e, if_neg e]
            exact i5 r (by omega)
        · rw [e2] at hi
          rw [addR_lo κ nm (50 + i) (by omega) (by omega) g.1, e1]
          have := i6 i hi
          omega
      · cases h
    · rename_i hc2
      rw [if_neg hc2] at hm
      split at h
      · rename_i hc3
        rw [if_pos hc3] at hm
        split at h
        · rename_i g
          have n0 := hn 0 (by omega)
          have n1 := hn 1 (by omega)
          cases h
          refine ⟨⟨⟨i0, i1, i2, by show 0 ≤ nm 0 ∧ nm 0 < κ 0; omega, n1, fun r hr => ?_, fun i hi => ?_⟩, fun z => by cases z⟩, rfl⟩
          · have := i5 r hr
            unfold up1
            rw [if_neg (by omega), if_neg (by omega), if_neg (by omega), if_neg (by omega), if_neg (by omega), if_neg (by omega), if_neg (by omega), if_neg (by omega), if_neg (by omega), if_neg (by omega), if_neg (by omega), if_neg (by omega)]
            exact this
          · have := i6 i hi
            unfold up1
            rw [if_neg (by omega), if_neg (by omega), if_neg (by omega), if_neg (by omega)]
            exact this
        · cases h
      · rename_i hc3
        rw [if_neg hc3] at hm
        split at h
        · rename_i g
          have n0 := hn 0 (by split at hm <;> omega)
          cases h
          have e1 : ∀ j, j ≠ 2 → j < 50 → up1 (up1 κ (50 + (κ 2).toNat) (nm 0)) 2 (κ 2 + 1) j = κ j := fun j h1 h2 => by
            unfold up1; rw [if_neg h1, if_neg (by omega)]
          have e2 : up1 (up1 κ (50 + (κ 2).toNat) (nm 0)) 2 (κ 2 + 1) 2 = κ 2 + 1 := rfl
          refine ⟨⟨⟨by rw [e1 0 (by omega) (by omega)]; exact i0, by rw [e1 1 (by omega) (by omega)]; exact i1, by rw [e2]; omega, by rw [e1 3 (by omega) (by omega), e1 0 (by omega) (by omega)]; exact i3, by rw [e1 4 (by omega) (by omega)]; exact i4, fun r hr => ?_, fun i hi => ?_⟩, fun z => by cases z⟩, rfl⟩
          · rw [e1 1 (by omega) (by omega)] at hr
            rw [e1 0 (by omega) (by omega), e1 (5 + r) (by omega) (by omega), e1 (14 + r) (by omega) (by omega), e1 (23 + r) (by omega) (by omega), e1 (32 + r) (by omega) (by omega), e1 (41 + r) (by omega) (by omega)]
            exact i5 r hr
          · rw [e2] at hi
            rw [e1 1 (by omega) (by omega)]
            unfold up1
            rw [if_neg (by omega)]
            by_cases e : (i : Int) = κ 2
            · rw [if_pos (by omega)]; omega
            · rw [if_neg (by omega)]; exact i6 i (by omega)
        · cases h
theorem itm_ok {tx κ κ' : Nat → Int} {n i j : Nat} {oN oN' : Bool} (hI : InvO κ oN) (hi : i < n) (h : itm tx n κ oN i = some (κ', oN', j)) : InvO κ' oN' ∧ i < j ∧ j ≤ n := by
  unfold itm at h
  split at h
  · cases h
  · rename_i h0
    rcases hn : nms tx n (cnt4 (chr tx n i)) 0 (i + 1) (fun _ => 0) with _ | ⟨nm, l⟩
    · rw [hn] at h; cases h
    · rw [hn] at h
      have hok := nms_ok hn (by omega) (fun t ht => by omega)
      have := itmB_ok hI rfl h0 (fun t ht => hok.1 t (by omega)) (show itmB κ oN (chr tx n i) nm l = some (κ', oN', j) from h)
      exact ⟨this.1, by omega, by omega⟩
theorem flt_ok {tx κ : Nat → Int} {n : Nat} {oN : Bool} (m i : Nat) (hI : InvO κ oN) (h : (flt tx n m κ oN i).1 = -4) : InvR (flt tx n m κ oN i).2 := by
  induction m generalizing κ oN i with
  | zero => exact hI.1
  | succ m ih =>
    unfold flt at h ⊢
    by_cases g : i < n
    · rw [if_pos g] at h ⊢
      rcases hit : itm tx n κ oN i with _ | ⟨κ', oN', j⟩
      · rw [hit] at h
        exfalso; have : (i : Int) = -4 := h; omega
      · rw [hit] at h
        exact ih j (itm_ok hI g hit).1 h
    · rw [if_neg g]; exact hI.1
