/-! ROUND: the rows of crossings, told without the programs -/
def sgl (p s : Int) : Nat → Int := fun j => if (j : Int) = p then s else -1
def dp (k w : Nat → Int) (n : Nat) (p s : Int) : Int := bstN k w (sgl p s) n (w 0).toNat
def rowv (k w : Nat → Int) : List Nat → Int → Int → Int
  | [], p, s => if p = w 0 then s else -1
  | r :: l, p, s => if (r : Int) < k 1 ∧ mayb k w r p = true then rowv k w l (oth k r p) (crs (k (5 + r)) s (fig k w r p)) else -1
theorem crs_mono {kd s s' f : Int} (h : s ≤ s') : crs kd s f ≤ crs kd s' f := by
  unfold crs
  split
  · omega
  · split
    · omega
    · split <;> omega
theorem sgl_ok {p s : Int} (hs : 0 ≤ s ∧ s ≤ 999) (j : Nat) : -1 ≤ sgl p s j ∧ sgl p s j ≤ 999 := by unfold sgl; split <;> omega
theorem bstN_shift (k w b : Nat → Int) (n : Nat) : bstN k w b (n + 1) = bstN k w (advN k w b (k 1).toNat) n := by
  induction n with
  | zero => rfl
  | succ n ih =>
    show advN k w (bstN k w b (n + 1)) (k 1).toNat = advN k w (bstN k w (advN k w b (k 1).toNat) n) (k 1).toNat
    rw [ih]
theorem car_up {k w b nx : Nat → Int} {r : Nat} {p q : Int} (j : Nat) : nx j ≤ car k w b nx r p q j := by
  unfold car
  split
  · exact Int.le_refl _
  · unfold up1
    split
    · rename_i g; rw [g]; omega
    · exact Int.le_refl _
theorem car_at {k w b nx : Nat → Int} {r : Nat} {p q : Int} (hp : 0 ≤ b p.toNat) : crs (k (5 + r)) (b p.toNat) (fig k w r p) ≤ car k w b nx r p q q.toNat := by
  unfold car
  rw [if_neg (by omega)]
  unfold up1
  rw [if_pos rfl]; omega
theorem advN_up {k w b : Nat → Int} {r j : Nat} (m : Nat) : advN k w b r j ≤ advN k w b (r + m) j := by
  induction m with
  | zero => exact Int.le_refl _
  | succ m ih =>
    have e : advN k w b (r + m) j ≤ advN k w b (r + m + 1) j := by
      conv => rhs; unfold advN
      split
      · exact Int.le_refl _
      · exact Int.le_trans (car_up j) (car_up j)
    exact Int.le_trans ih e
theorem advN_at {k w b : Nat → Int} (hI : Inv k w) {r : Nat} {p : Int} (hr : (r : Int) < k 1) (hm : may k w r p) (hp : 0 ≤ b p.toNat) : crs (k (5 + r)) (b p.toNat) (fig k w r p) ≤ advN k w b (k 1).toNat (oth k r p).toNat := by
  have hE := hI.2.2.2.1 r hr
  have e := advN_up (k := k) (w := w) (b := b) (r := r + 1) (j := (oth k r p).toNat) ((k 1).toNat - (r + 1))
  rw [show r + 1 + ((k 1).toNat - (r + 1)) = (k 1).toNat by omega] at e
  refine Int.le_trans ?_ e
  have hs := hm.2
  unfold sh at hs
  conv => rhs; unfold advN
  rw [if_neg hs]
  rcases hm.1 with g | g
  · have eo : oth k r p = k (23 + r) := by unfold oth; rw [if_pos g]
    rw [eo, g]
    exact Int.le_trans (car_at hp) (car_up _)
  · have eo : oth k r p = k (14 + r) := by unfold oth; rw [if_neg (by omega)]
    rw [eo, g]
    exact car_at hp
theorem bst_ge {k w : Nat → Int} (hI : Inv k w) (l : List Nat) : ∀ (b : Nat → Int) (p s : Int), (∀ j, -1 ≤ b j ∧ b j ≤ 999) → 0 ≤ s → s ≤ b p.toNat → 0 ≤ p → rowv k w l p s ≤ bstN k w b l.length (w 0).toNat := by
  induction l with
  | nil =>
    intro b p s hb h0 hs hp
    unfold rowv
    show _ ≤ b (w 0).toNat
    have := hb (w 0).toNat
    split
    · rename_i g; rw [← g]; exact hs
    · omega
  | cons r l ih =>
    intro b p s hb h0 hs hp
    show _ ≤ bstN k w b (l.length + 1) (w 0).toNat
    have hb' : ∀ j, -1 ≤ advN k w b (k 1).toNat j ∧ advN k w b (k 1).toNat j ≤ 999 := advN_ok k w b (k 1).toNat
    rw [bstN_shift]
    unfold rowv
    split
    · rename_i g
      have ho := oth_ok hI g.1 p
      refine ih _ _ _ hb' (crs_ge _ _ _) ?_ ho.1
      exact Int.le_trans (crs_mono hs) (advN_at hI g.1 (mayb_iff.mp g.2) (by omega))
    · exact (bstN_ok hb' _ _).1
theorem car_from {k w b nx : Nat → Int} {r : Nat} {p q : Int} {j : Nat} (h : car k w b nx r p q j ≠ nx j) : j = q.toNat ∧ 0 ≤ b p.toNat ∧ car k w b nx r p q j = crs (k (5 + r)) (b p.toNat) (fig k w r p) := by
  unfold car at h ⊢
  by_cases g : b p.toNat < 0
  · rw [if_pos g] at h; exact absurd rfl h
  · rw [if_neg g] at h ⊢
    unfold up1 at h ⊢
    by_cases g2 : j = q.toNat
    · rw [if_pos g2] at h ⊢
      rw [g2] at h
      exact ⟨g2, by omega, by omega⟩
    · rw [if_neg g2] at h; exact absurd rfl h
theorem advN_from {k w b : Nat → Int} (hI : Inv k w) (R : Nat) (hR : (R : Int) ≤ k 1) (j : Nat) : advN k w b R j = -1 ∨ ∃ (r : Nat) (p : Int), (r : Int) < k 1 ∧ may k w r p ∧ 0 ≤ p ∧ 0 ≤ b p.toNat ∧ j = (oth k r p).toNat ∧ advN k w b R j = crs (k (5 + r)) (b p.toNat) (fig k w r p) := by
  induction R with
  | zero => exact Or.inl rfl
  | succ R ih =>
    have hE := hI.2.2.2.1 R (by omega)
    have ih := ih (by omega)
    by_cases hs : (w 3).toNat.testBit R = true
    · have e : advN k w b (R + 1) = advN k w b R := by conv => lhs; unfold advN; rw [if_pos hs]
      rw [e]; exact ih
    · have e : advN k w b (R + 1) = car k w b (car k w b (advN k w b R) R (k (14 + R)) (k (23 + R))) R (k (23 + R)) (k (14 + R)) := by conv => lhs; unfold advN; rw [if_neg hs]
      have o1 : oth k R (k (14 + R)) = k (23 + R) := by unfold oth; rw [if_pos rfl]
      have o2 : oth k R (k (23 + R)) = k (14 + R) := by unfold oth; rw [if_neg (by omega)]
      rw [e]
      by_cases g : car k w b (car k w b (advN k w b R) R (k (14 + R)) (k (23 + R))) R (k (23 + R)) (k (14 + R)) j = car k w b (advN k w b R) R (k (14 + R)) (k (23 + R)) j
      · rw [g]
        by_cases g2 : car k w b (advN k w b R) R (k (14 + R)) (k (23 + R)) j = advN k w b R j
        · rw [g2]; exact ih
        · have f := car_from g2
          exact Or.inr ⟨R, k (14 + R), by omega, ⟨Or.inl rfl, hs⟩, by omega, f.2.1, by rw [o1]; exact f.1, f.2.2⟩
      · have f := car_from g
        exact Or.inr ⟨R, k (23 + R), by omega, ⟨Or.inr rfl, hs⟩, by omega, f.2.1, by rw [o2]; exact f.1, f.2.2⟩
theorem bst_from {k w : Nat → Int} (hI : Inv k w) (n : Nat) : ∀ b : Nat → Int, (∀ j, -1 ≤ b j ∧ b j ≤ 999) → bstN k w b n (w 0).toNat = -1 ∨ ∃ (p : Int) (l : List Nat), l.length = n ∧ 0 ≤ p ∧ 0 ≤ b p.toNat ∧ rowv k w l p (b p.toNat) = bstN k w b n (w 0).toNat := by
  induction n with
  | zero =>
    intro b hb
    have := hb (w 0).toNat
    have := hI.2.2.2.2.2.1
    show b (w 0).toNat = -1 ∨ _
    by_cases g : b (w 0).toNat = -1
    · exact Or.inl g
    · refine Or.inr ⟨w 0, [], rfl, by omega, by omega, ?_⟩
      unfold rowv; rw [if_pos rfl]; rfl
  | succ n ih =>
    intro b hb
    rw [bstN_shift]
    have hk := hI.2.1
    have hb' : ∀ j, -1 ≤ advN k w b (k 1).toNat j ∧ advN k w b (k 1).toNat j ≤ 999 := advN_ok k w b (k 1).toNat
    rcases ih _ hb' with g | ⟨q, l, h1, h2, h3, h4⟩
    · exact Or.inl g
    · rcases advN_from (b := b) hI (k 1).toNat (by omega) q.toNat with g | ⟨r, p, e1, e2, e3, e4, e5, e6⟩
      · omega
      · have ho := oth_ok hI e1 p
        refine Or.inr ⟨p, r :: l, by rw [← h1]; rfl, e3, e4, ?_⟩
        rw [← h4]
        conv => lhs; unfold rowv
        rw [if_pos ⟨e1, mayb_iff.mpr e2⟩, ← e6, show q = oth k r p by omega]
theorem dp_ge {k w : Nat → Int} (hI : Inv k w) {l : List Nat} {p s : Int} (hp : 0 ≤ p) (hs : 0 ≤ s ∧ s ≤ 999) : rowv k w l p s ≤ dp k w l.length p s := by
  refine bst_ge hI l _ _ _ (sgl_ok hs) hs.1 ?_ hp
  unfold sgl; rw [if_pos (by omega)]; exact Int.le_refl _
theorem dp_from {k w : Nat → Int} (hI : Inv k w) {n : Nat} {p s : Int} (hp : 0 ≤ p) (hs : 0 ≤ s ∧ s ≤ 999) : dp k w n p s = -1 ∨ ∃ l : List Nat, l.length = n ∧ rowv k w l p s = dp k w n p s := by
  rcases bst_from hI n _ (sgl_ok (p := p) hs) with g | ⟨q, l, h1, h2, h3, h4⟩
  · exact Or.inl g
  · have e : sgl p s q.toNat = (if q = p then s else -1) := by unfold sgl; rw [show (q.toNat : Int) = q by omega]
    rw [e] at h3 h4
    by_cases g : q = p
    · rw [if_pos g] at h4
      rw [g] at h4
      exact Or.inr ⟨l, h1, h4⟩
    · rw [if_neg g] at h3; omega
theorem dp_ok {k w : Nat → Int} {n : Nat} {p s : Int} (hs : 0 ≤ s ∧ s ≤ 999) : -1 ≤ dp k w n p s ∧ dp k w n p s ≤ 999 := bstN_ok (sgl_ok hs) _ _
/-- the greatest of V below c, and where it is first -/
def mxr (V : Nat → Int) : Nat → Int
  | 0 => -1
  | c + 1 => max (mxr V c) (V c)
def fst1 (V : Nat → Int) (v : Int) : Nat → Nat
  | 0 => 0
  | c + 1 => if fst1 V v c < c then fst1 V v c else if V c = v then c else c + 1
theorem mxr_ge {V : Nat → Int} {c r : Nat} (h : r < c) : V r ≤ mxr V c := by
  induction c with
  | zero => omega
  | succ c ih =>
    unfold mxr
    by_cases g : r = c
    · rw [g]; omega
    · have := ih (by omega); omega
theorem mxr_from {V : Nat → Int} (c : Nat) : mxr V c = -1 ∨ ∃ r, r < c ∧ V r = mxr V c := by
  induction c with
  | zero => exact Or.inl rfl
  | succ c ih =>
    unfold mxr
    by_cases g : mxr V c < V c
    · exact Or.inr ⟨c, by omega, by omega⟩
    · rw [show max (mxr V c) (V c) = mxr V c by omega]
      rcases ih with e | ⟨r, e1, e2⟩
      · exact Or.inl e
      · exact Or.inr ⟨r, by omega, e2⟩
theorem mxr_low (V : Nat → Int) (c : Nat) : -1 ≤ mxr V c := by
  induction c with
  | zero => exact Int.le_refl _
  | succ c ih => unfold mxr; omega
theorem fst1_none {V : Nat → Int} {v : Int} {c : Nat} (h : ∀ r, r < c → V r ≠ v) : fst1 V v c = c := by
  induction c with
  | zero => rfl
  | succ c ih =>
    have ih := ih (fun r hr => h r (by omega))
    unfold fst1
    rw [ih, if_neg (by omega), if_neg (h c (by omega))]
theorem fst1_some {V : Nat → Int} {v : Int} {c r : Nat} (h : r < c) (hv : V r = v) (hf : ∀ i, i < r → V i ≠ v) : fst1 V v c = r := by
  induction c with
  | zero => omega
  | succ c ih =>
    unfold fst1
    by_cases g : r = c
    · rw [← g, fst1_none hf, if_neg (by omega), if_pos hv]
    · rw [ih (by omega), if_pos (by omega)]
theorem fst1_ex {V : Nat → Int} {v : Int} (c : Nat) (h : ∃ r, r < c ∧ V r = v) : fst1 V v c < c ∧ V (fst1 V v c) = v ∧ ∀ i, i < fst1 V v c → V i ≠ v := by
  induction c with
  | zero => obtain ⟨r, h1, _⟩ := h; omega
  | succ c ih =>
    by_cases g : ∃ r, r < c ∧ V r = v
    · have := ih g
      unfold fst1
      rw [if_pos this.1]
      exact ⟨by omega, this.2⟩
    · have hn : ∀ r, r < c → V r ≠ v := fun r hr e => g ⟨r, hr, e⟩
      obtain ⟨r, h1, h2⟩ := h
      have : r = c := by
        by_cases g2 : r < c
        · exact absurd h2 (hn r g2)
        · omega
      rw [this] at h2
      unfold fst1
      rw [fst1_none hn, if_neg (by omega), if_pos h2]
      exact ⟨by omega, h2, hn⟩
def nxv (k w : Nat → Int) (m : Nat) (p s : Int) : Nat → Int := fun r => if mayb k w r p = true then dp k w m (oth k r p) (crs (k (5 + r)) s (fig k w r p)) else -1
theorem dp_step {k w : Nat → Int} (hI : Inv k w) {m : Nat} {p s : Int} (hp : 0 ≤ p) (hs : 0 ≤ s ∧ s ≤ 999) : dp k w (m + 1) p s = mxr (nxv k w m p s) (k 1).toNat := by
  have hk := hI.2.1
  have a1 : dp k w (m + 1) p s ≤ mxr (nxv k w m p s) (k 1).toNat := by
    have hl := mxr_low (nxv k w m p s) (k 1).toNat
    rcases dp_from hI (n := m + 1) hp hs with g | ⟨l, h1, h2⟩
    · omega
    · rw [← h2]
      cases l with
      | nil => exact absurd h1 (by simp)
      | cons r l =>
        unfold rowv
        by_cases g : (r : Int) < k 1 ∧ mayb k w r p = true
        · rw [if_pos g]
          have hm := mxr_ge (V := nxv k w m p s) (c := (k 1).toNat) (r := r) (by omega)
          have e : nxv k w m p s r = dp k w m (oth k r p) (crs (k (5 + r)) s (fig k w r p)) := by unfold nxv; rw [if_pos g.2]
          have hd := dp_ge hI (l := l) (oth_ok hI g.1 p).1 ⟨crs_ge (k (5 + r)) s (fig k w r p), crs_le (k (5 + r)) s (fig k w r p)⟩
          rw [show l.length = m by simpa using h1] at hd
          omega
        · rw [if_neg g]; exact hl
  have a2 : mxr (nxv k w m p s) (k 1).toNat ≤ dp k w (m + 1) p s := by
    have hl := (dp_ok (k := k) (w := w) (n := m + 1) (p := p) hs).1
    rcases mxr_from (V := nxv k w m p s) (k 1).toNat with g | ⟨r, h1, h2⟩
    · omega
    · rw [← h2]
      unfold nxv
      by_cases g : mayb k w r p = true
      · rw [if_pos g]
        have hr : (r : Int) < k 1 := by omega
        rcases dp_from hI (n := m) (oth_ok hI hr p).1 ⟨crs_ge (k (5 + r)) s (fig k w r p), crs_le (k (5 + r)) s (fig k w r p)⟩ with z | ⟨l, z1, z2⟩
        · rw [z]; exact hl
        · have hd := dp_ge hI (l := r :: l) hp hs
          have e : rowv k w (r :: l) p s = rowv k w l (oth k r p) (crs (k (5 + r)) s (fig k w r p)) := by conv => lhs; unfold rowv; rw [if_pos ⟨hr, g⟩]
          rw [e, z2, show (r :: l).length = m + 1 by rw [← z1]; rfl] at hd
          exact hd
      · rw [if_neg g]; exact hl
  omega
