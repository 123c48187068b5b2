/-! ROUND: both programs against the rows -/
def fr (k w : Nat → Int) : Nat → Int → Int → Int → List Nat
  | 0, _, _, _ => []
  | m + 1, p, s, v => fst1 (nxv k w m p s) v (k 1).toNat :: fr k w m (oth k (fst1 (nxv k w m p s) v (k 1).toNat) p) (crs (k (5 + fst1 (nxv k w m p s) v (k 1).toNat)) s (fig k w (fst1 (nxv k w m p s) v (k 1).toNat) p)) v
abbrev St3 := Int × Nat × List Nat
def lp (f : Nat → St3 → St3) : Nat → St3 → St3
  | 0, st => st
  | c + 1, st => f c (lp f c st)
def dfs (k w : Nat → Int) (n : Nat) : Nat → Int → Int → List Nat → St3 → St3
  | 0, p, s, pre, st => if p = w 0 ∧ st.1 < s then (s, n, pre) else st
  | m + 1, p, s, pre, st => lp (fun r st => if mayb k w r p = true then dfs k w n m (oth k r p) (crs (k (5 + r)) s (fig k w r p)) (pre ++ [r]) st else st) (k 1).toNat st
theorem dfs_eq {k w : Nat → Int} (hI : Inv k w) (n m : Nat) : ∀ (p s : Int) (pre : List Nat) (st : St3), 0 ≤ p → (0 ≤ s ∧ s ≤ 999) → -1 ≤ st.1 → dfs k w n m p s pre st = if st.1 < dp k w m p s then (dp k w m p s, n, pre ++ fr k w m p s (dp k w m p s)) else st := by
  induction m with
  | zero =>
    intro p s pre st hp hs h1
    have hw := hI.2.2.2.2.2.1
    have e : dp k w 0 p s = if p = w 0 then s else -1 := by
      show sgl p s (w 0).toNat = _
      unfold sgl
      by_cases g : p = w 0
      · rw [if_pos (by omega), if_pos g]
      · rw [if_neg (by omega), if_neg g]
    rw [e]
    conv => lhs; unfold dfs
    by_cases g : p = w 0
    · rw [if_pos g]
      by_cases g2 : st.1 < s
      · rw [if_pos ⟨g, g2⟩, if_pos g2]; unfold fr; rw [List.append_nil]
      · rw [if_neg (fun z => g2 z.2), if_neg g2]
    · rw [if_neg g, if_neg (fun z => g z.1), if_neg (by omega)]
  | succ m ih =>
    intro p s pre st hp hs h1
    have key : ∀ c : Nat, (c : Int) ≤ k 1 → lp (fun r st => if mayb k w r p = true then dfs k w n m (oth k r p) (crs (k (5 + r)) s (fig k w r p)) (pre ++ [r]) st else st) c st = if st.1 < mxr (nxv k w m p s) c then (mxr (nxv k w m p s) c, n, pre ++ (fst1 (nxv k w m p s) (mxr (nxv k w m p s) c) c :: fr k w m (oth k (fst1 (nxv k w m p s) (mxr (nxv k w m p s) c) c) p) (crs (k (5 + fst1 (nxv k w m p s) (mxr (nxv k w m p s) c) c)) s (fig k w (fst1 (nxv k w m p s) (mxr (nxv k w m p s) c) c) p)) (mxr (nxv k w m p s) c))) else st := by
      intro c
      induction c with
      | zero =>
        intro _
        have z0 : ¬ st.1 < mxr (nxv k w m p s) 0 := by show ¬ st.1 < -1; omega
        rw [if_neg z0]; rfl
      | succ c ihc =>
        intro hc
        have ihc := ihc (by omega)
        have hl := mxr_low (nxv k w m p s) c
        have hge : ∀ r, r < c → nxv k w m p s r ≤ mxr (nxv k w m p s) c := fun r hr => mxr_ge hr
        have hfrom := mxr_from (V := nxv k w m p s) c
        have em : mxr (nxv k w m p s) (c + 1) = max (mxr (nxv k w m p s) c) (nxv k w m p s c) := rfl
        have keep : nxv k w m p s c ≤ mxr (nxv k w m p s) c → st.1 < mxr (nxv k w m p s) c → mxr (nxv k w m p s) (c + 1) = mxr (nxv k w m p s) c ∧ fst1 (nxv k w m p s) (mxr (nxv k w m p s) c) (c + 1) = fst1 (nxv k w m p s) (mxr (nxv k w m p s) c) c := by
          intro a b
          refine ⟨by omega, ?_⟩
          have ex := fst1_ex (V := nxv k w m p s) (v := mxr (nxv k w m p s) c) c (by rcases hfrom with z | z; omega; exact z)
          conv => lhs; unfold fst1
          rw [if_pos ex.1]
        show (if mayb k w c p = true then dfs k w n m (oth k c p) (crs (k (5 + c)) s (fig k w c p)) (pre ++ [c]) (lp _ c st) else lp _ c st) = _
        rw [ihc]
        by_cases g : mayb k w c p = true
        · have eV : nxv k w m p s c = dp k w m (oth k c p) (crs (k (5 + c)) s (fig k w c p)) := by unfold nxv; rw [if_pos g]
          rw [if_pos g]
          have ho := oth_ok hI (show (c : Int) < k 1 by omega) p
          have news : mxr (nxv k w m p s) c < nxv k w m p s c → mxr (nxv k w m p s) (c + 1) = nxv k w m p s c ∧ fst1 (nxv k w m p s) (nxv k w m p s c) (c + 1) = c := by
            intro a
            refine ⟨by omega, fst1_some (by omega) rfl (fun i hi => ?_)⟩
            have := hge i hi
            omega
          by_cases g2 : st.1 < mxr (nxv k w m p s) c
          · rw [if_pos g2, ih _ _ _ _ ho.1 ⟨crs_ge _ _ _, crs_le _ _ _⟩ hl, ← eV]
            by_cases g3 : mxr (nxv k w m p s) c < nxv k w m p s c
            · have e := news g3
              rw [e.1, e.2, if_pos g3, if_pos (by omega), List.append_assoc]; rfl
            · have e := keep (by omega) g2
              rw [e.1, e.2, if_neg g3, if_pos g2]
          · rw [if_neg g2, ih _ _ _ _ ho.1 ⟨crs_ge _ _ _, crs_le _ _ _⟩ h1, ← eV]
            by_cases g3 : st.1 < nxv k w m p s c
            · have e := news (by omega)
              rw [e.1, e.2, if_pos g3, if_pos g3, List.append_assoc]; rfl
            · rw [if_neg g3, if_neg (by omega)]
        · have eV : nxv k w m p s c = -1 := by unfold nxv; rw [if_neg g]
          rw [if_neg g]
          by_cases g2 : st.1 < mxr (nxv k w m p s) c
          · have e := keep (by omega) g2
            rw [e.1, e.2]
          · rw [if_neg g2, if_neg (by omega)]
    have hk := hI.2.1
    have e := key (k 1).toNat (by omega)
    rw [← dp_step hI hp hs] at e
    exact e
def rnd (k w : Nat → Int) : Nat → Int × Nat
  | 0 => (w 1, 0)
  | t + 1 => if (rnd k w t).1 < dp k w (t + 1) (w 0) (w 1) then (dp k w (t + 1) (w 0) (w 1), t + 1) else rnd k w t
def rowS (k w : Nat → Int) (n : Nat) : List Nat := if (rnd k w n).2 = 0 then [] else fr k w (rnd k w n).2 (w 0) (w 1) (rnd k w n).1
def St3' (k w : Nat → Int) (n : Nat) : St3 := ((rnd k w n).1, (rnd k w n).2, rowS k w n)
theorem rnd_ok {k w : Nat → Int} (hI : Inv k w) (n : Nat) : 0 ≤ (rnd k w n).1 ∧ (rnd k w n).1 ≤ 999 ∧ (rnd k w n).2 ≤ n ∧ ((rnd k w n).2 = 0 → (rnd k w n).1 = w 1) := by
  have hs := hI.2.2.2.2.2.2.1
  induction n with
  | zero => exact ⟨hs.1, hs.2, Nat.le_refl _, fun _ => rfl⟩
  | succ n ih =>
    have hd := dp_ok (k := k) (w := w) (n := n + 1) (p := w 0) hs
    unfold rnd
    split
    · rename_i g
      exact ⟨by show 0 ≤ dp k w (n + 1) (w 0) (w 1); omega, hd.2, Nat.le_refl _, fun z => absurd z (by show ¬ n + 1 = 0; omega)⟩
    · exact ⟨ih.1, ih.2.1, by omega, ih.2.2.2⟩
theorem rnd_dfs {k w : Nat → Int} (hI : Inv k w) (n : Nat) : dfs k w (n + 1) (n + 1) (w 0) (w 1) [] (St3' k w n) = St3' k w (n + 1) := by
  have hs := hI.2.2.2.2.2.2.1
  have hp := hI.2.2.2.2.2.1
  have hr := rnd_ok hI n
  have e := dfs_eq hI (n + 1) (n + 1) (w 0) (w 1) [] (St3' k w n) hp.1 hs (by show -1 ≤ (rnd k w n).1; omega)
  rw [e]
  show (if (rnd k w n).1 < _ then _ else _) = _
  by_cases g : (rnd k w n).1 < dp k w (n + 1) (w 0) (w 1)
  · rw [if_pos g]
    have er : rnd k w (n + 1) = (dp k w (n + 1) (w 0) (w 1), n + 1) := by conv => lhs; unfold rnd; rw [if_pos g]
    unfold St3' rowS
    rw [er, if_neg (by omega), List.nil_append]
  · rw [if_neg g]
    have er : rnd k w (n + 1) = rnd k w n := by conv => lhs; unfold rnd; rw [if_neg g]
    unfold St3' rowS
    rw [er]
theorem rnd_one {k w : Nat → Int} (hI : Inv k w) : rnd k w 1 = (w 1, 0) := by
  have hs := hI.2.2.2.2.2.2.1
  have hp := hI.2.2.2.2.2.1
  have e : dp k w 1 (w 0) (w 1) = -1 := by
    rcases dp_from hI (n := 1) hp.1 hs with g | ⟨l, h1, h2⟩
    · exact g
    · rw [← h2]
      match l, h1 with
      | [r], _ =>
        unfold rowv
        by_cases g : (r : Int) < k 1 ∧ mayb k w r (w 0) = true
        · rw [if_pos g]
          have hE := hI.2.2.2.1 r g.1
          have hm := (mayb_iff.mp g.2).1
          unfold rowv
          rw [if_neg]
          unfold oth
          unfold lds at hm
          split <;> omega
        · rw [if_neg g]
  unfold rnd
  rw [e]
  show (if w 1 < -1 then _ else (w 1, 0)) = _
  rw [if_neg (by omega)]
theorem fr_len (k w : Nat → Int) (m : Nat) : ∀ p s v, (fr k w m p s v).length = m := by
  induction m with
  | zero => intro p s v; rfl
  | succ m ih => intro p s v; unfold fr; rw [List.length_cons, ih]
/-- where a sum v >= 0 is had, a first ROAD to it is there -/
theorem dp_next {k w : Nat → Int} (hI : Inv k w) {m : Nat} {p s v : Int} (hp : 0 ≤ p) (hs : 0 ≤ s ∧ s ≤ 999) (hv : 0 ≤ v) (h : dp k w (m + 1) p s = v) : ((fst1 (nxv k w m p s) v (k 1).toNat : Nat) : Int) < k 1 ∧ mayb k w (fst1 (nxv k w m p s) v (k 1).toNat) p = true ∧ dp k w m (oth k (fst1 (nxv k w m p s) v (k 1).toNat) p) (crs (k (5 + fst1 (nxv k w m p s) v (k 1).toNat)) s (fig k w (fst1 (nxv k w m p s) v (k 1).toNat) p)) = v ∧ ∀ i, i < fst1 (nxv k w m p s) v (k 1).toNat → nxv k w m p s i ≠ v := by
  rw [dp_step hI hp hs] at h
  have hk := hI.2.1
  have ex := fst1_ex (V := nxv k w m p s) (v := v) (k 1).toNat (by
    rcases mxr_from (V := nxv k w m p s) (k 1).toNat with z | ⟨r, z1, z2⟩
    · omega
    · exact ⟨r, z1, by omega⟩)
  generalize fst1 (nxv k w m p s) v (k 1).toNat = r at ex ⊢
  have e2 := ex.2.1
  unfold nxv at e2
  by_cases g : mayb k w r p = true
  · rw [if_pos g] at e2
    exact ⟨by omega, g, e2, ex.2.2⟩
  · rw [if_neg g] at e2
    omega
