/-! THE STATE OF BOTH SIDES, AS NUMBERS -/
def ClC (h : AH) : Prop := (gr h 57 2 = 59 ∧ gr h 57 3 = 60) ∨ (gr h 57 2 = 60 ∧ gr h 57 3 = 59)
def RiC (h : AH) : Prop := ((gr h 64 1 = 65 ∧ gr h 64 3 = 67) ∨ (gr h 64 1 = 67 ∧ gr h 64 3 = 65)) ∧ ((gr h 64 2 = 66 ∧ gr h 64 4 = 68) ∨ (gr h 64 2 = 68 ∧ gr h 64 4 = 66))
def LeC (h : AH) (tx : Nat → Int) (tl : Int) : Prop := gi h 2 1 = tl ∧ ∀ i : Nat, (i : Int) < tl → gi h 3 i = tx i
def ToC (h : AH) (td : Nat → Int) (tn : Int) : Prop := gi h 69 6 = tn ∧ ∀ i : Nat, (i : Int) < tn → gi h 70 i = td (5 * i) ∧ gi h 71 i = td (5 * i + 1) ∧ gi h 72 i = td (5 * i + 2) ∧ gi h 73 i = td (5 * i + 3) ∧ gi h 74 i = td (5 * i + 4)
/-- a standing at o holds what v says, its figures for n ROADS -/
def SdC (h : AH) (o : Nat) (v : Nat → Int) (n : Int) : Prop := gi h o 0 = v 0 ∧ gi h o 1 = v 1 ∧ gi h o 2 = v 2 ∧ gi h o 3 = v 3 ∧ ∀ r : Nat, (r : Int) < n → gi h (o + 1) r = v (4 + r) ∧ gi h (o + 2) r = v (13 + r)
/-- a pile at P, its rows at R: N standings from B on, in some order -/
def PiC (h : AH) (P R B N : Nat) (pa : Nat → Int) (un n : Int) : Prop := gi h P 1 = un ∧ (∀ i, i < N → ∃ m, m < N ∧ gr h R i = B + 3 * m) ∧ (∀ i j, i < N → j < N → gr h R i = gr h R j → i = j) ∧ ∀ i : Nat, (i : Int) < un → SdC h (gr h R i) (fun j => pa (22 * i + j)) n
abbrev ST : Type := (Nat → Int) × (Nat → Int) × (Nat → Int) × Int × (Nat → Int) × Int × (Nat → Int) × Int × (Nat → Int) × Int
def RepC (h : AH) (σ : ST) : Prop := match σ with
  | (k, w, tx, tl, td, tn, pa, un, ke, kn) => RC h k w ∧ LeC h tx tl ∧ ToC h td tn ∧ PiC h 22 23 24 8 pa un (k 1) ∧ PiC h 48 49 50 2 ke kn (k 1) ∧ ClC h ∧ RiC h
def RepM (h : AH) (σ : ST) : Prop := match σ with
  | (k, w, tx, tl, td, tn, pa, un, ke, kn) => RM h k w ∧ (gi h 1 8 = tl ∧ ∀ j, gi h 7 j = tx j) ∧ (gi h 1 10 = tn ∧ ∀ j, gi h 8 j = td j) ∧ (gi h 1 4 = un ∧ ∀ j, gi h 5 j = pa j) ∧ (gi h 1 6 = kn ∧ ∀ j, gi h 6 j = ke j)
def ToI (k td : Nat → Int) (tn : Int) : Prop := (0 ≤ tn ∧ tn ≤ 6) ∧ ∀ i : Nat, (i : Int) < tn → (0 ≤ td (5 * i) ∧ td (5 * i) < k 0) ∧ (0 ≤ td (5 * i + 1) ∧ td (5 * i + 1) ≤ 999) ∧ (0 ≤ td (5 * i + 2) ∧ td (5 * i + 2) < k 1) ∧ lds k (td (5 * i + 2)).toNat (td (5 * i)) ∧ (td (5 * i + 3) = -4 ∨ ((0 ≤ td (5 * i + 3) ∧ td (5 * i + 3) < k 1) ∧ lds k (td (5 * i + 3)).toNat (oth k (td (5 * i + 2)).toNat (td (5 * i))))) ∧ (0 ≤ td (5 * i + 4) ∧ td (5 * i + 4) ≤ 999)
def InvS (σ : ST) : Prop := match σ with
  | (k, w, tx, tl, td, tn, pa, un, ke, kn) => Inv k w ∧ ((0 ≤ tl ∧ tl ≤ 200) ∧ ∀ i : Nat, (i : Int) < tl → 32 ≤ tx i ∧ tx i ≤ 126) ∧ ToI k td tn ∧ ((0 ≤ un ∧ un ≤ 8) ∧ ∀ i : Nat, (i : Int) < un → Inv k (fun j => pa (22 * i + j))) ∧ ((0 ≤ kn ∧ kn ≤ 2) ∧ ∀ i : Nat, (i : Int) < kn → Inv k (fun j => ke (22 * i + j)))
/-- what a question leaves as it is: of the component -/
def stO (a : Nat) : Prop := a = 2 ∨ a = 3 ∨ (14 ≤ a ∧ a ≤ 55) ∨ (70 ≤ a ∧ a ≤ 74)
def KP (h h' : AH) : Prop := cn h' = cn h ∧ (∀ a j, a ≠ 57 → a ≠ 64 → gr h' a j = gr h a j) ∧ (gr h' 57 0 = gr h 57 0 ∧ gr h' 57 1 = gr h 57 1 ∧ gr h' 64 0 = gr h 64 0) ∧ (ClC h → ClC h') ∧ (RiC h → RiC h') ∧ (∀ a, stO a → ∀ j, gi h' a j = gi h a j) ∧ gi h' 69 6 = gi h 69 6
def scO (a : Nat) : Prop := (4 ≤ a ∧ a ≤ 13) ∨ (56 ≤ a ∧ a ≤ 68) ∨ (75 ≤ a ∧ a ≤ 81)
theorem KP.rfl' {h : AH} : KP h h := ⟨rfl, fun _ _ _ _ => rfl, ⟨rfl, rfl, rfl⟩, fun x => x, fun x => x, fun _ _ _ => rfl, rfl⟩
theorem KP.trans {a b c : AH} (h1 : KP a b) (h2 : KP b c) : KP a c :=
  ⟨h2.1.trans h1.1, fun x j e1 e2 => (h2.2.1 x j e1 e2).trans (h1.2.1 x j e1 e2), ⟨h2.2.2.1.1.trans h1.2.2.1.1, h2.2.2.1.2.1.trans h1.2.2.1.2.1, h2.2.2.1.2.2.trans h1.2.2.1.2.2⟩, fun x => h2.2.2.2.1 (h1.2.2.2.1 x), fun x => h2.2.2.2.2.1 (h1.2.2.2.2.1 x), fun x hx j => (h2.2.2.2.2.2.1 x hx j).trans (h1.2.2.2.2.2.1 x hx j), h2.2.2.2.2.2.2.trans h1.2.2.2.2.2.2⟩
theorem KP.of {P : Nat → Prop} {h h' : AH} (hs : Sm P h h') (hP : ∀ a, P a → scO a) : KP h h' := by
  refine ⟨hs.1, fun a j _ _ => by rw [hs.2.1], ⟨by rw [hs.2.1], by rw [hs.2.1], by rw [hs.2.1]⟩, fun x => by unfold ClC at x ⊢; rw [hs.2.1]; exact x, fun x => by unfold RiC at x ⊢; rw [hs.2.1]; exact x, fun a ha j => (hs.2.2 a (fun z => ?_)).1 j, (hs.2.2 69 (fun z => ?_)).1 6⟩
  · have := hP a z
    unfold stO at ha; unfold scO at this; omega
  · have := hP 69 z
    unfold scO at this; omega
theorem GC.kp {h h' : AH} (hk : KP h h') (hg : GC h) : GC h' := by
  refine ⟨hk.1.trans hg.1, fun q hq => ?_⟩
  rw [← hg.2 q hq]
  by_cases e1 : q.1 = 57
  · have : q.2.1 = 0 ∨ q.2.1 = 1 := by
      have h0 : ∀ q ∈ GCl, q.1 = 57 → (q.2.1 = 0 ∨ q.2.1 = 1) := by decide
      exact h0 q hq e1
    rw [e1]
    rcases this with e | e <;> rw [e]
    · exact hk.2.2.1.1
    · exact hk.2.2.1.2.1
  · by_cases e2 : q.1 = 64
    · have : q.2.1 = 0 := by
        have h0 : ∀ q ∈ GCl, q.1 = 64 → q.2.1 = 0 := by decide
        exact h0 q hq e2
      rw [e2, this]
      exact hk.2.2.1.2.2
    · exact hk.2.1 _ _ e1 e2
theorem RC.kp {h h' : AH} {k w : Nat → Int} (hk : KP h h') (hR : RC h k w) : RC h' k w :=
  hR.gx (hR.1.kp hk) (fun a h1 h2 j => hk.2.2.2.2.2.1 a (by unfold stO; omega) j)
theorem SdC.ext {h h' : AH} {o : Nat} {v : Nat → Int} {n : Int} (hS : SdC h o v n) (e : ∀ a, o ≤ a → a ≤ o + 2 → ∀ j, gi h' a j = gi h a j) : SdC h' o v n := by
  obtain ⟨h0, h1, h2, h3, h4⟩ := hS
  have e0 := e o (by omega) (by omega)
  refine ⟨by rw [e0]; exact h0, by rw [e0]; exact h1, by rw [e0]; exact h2, by rw [e0]; exact h3, fun r hr => ?_⟩
  rw [e (o + 1) (by omega) (by omega), e (o + 2) (by omega) (by omega)]
  exact h4 r hr
theorem PiC.ext {h h' : AH} {P R B N : Nat} {pa : Nat → Int} {un n : Int} (hP : PiC h P R B N pa un n) (hun : un ≤ N) (e1 : gi h' P 1 = gi h P 1) (e2 : ∀ j, gr h' R j = gr h R j) (e3 : ∀ a, B ≤ a → a < B + 3 * N → ∀ j, gi h' a j = gi h a j) : PiC h' P R B N pa un n := by
  obtain ⟨h0, h1, h2, h3⟩ := hP
  refine ⟨by rw [e1]; exact h0, fun i hi => by rw [e2]; exact h1 i hi, fun i j hi hj hij => h2 i j hi hj (by rw [e2, e2] at hij; exact hij), fun i hi => ?_⟩
  rw [e2]
  obtain ⟨m, hm, em⟩ := h1 i (by omega)
  exact (h3 i hi).ext (fun a g1 g2 j => e3 a (by omega) (by omega) j)
theorem RepC.kp {h h' : AH} {σ : ST} (hI : InvS σ) (hk : KP h h') (hR : RepC h σ) : RepC h' σ := by
  obtain ⟨k, w, tx, tl, td, tn, pa, un, ke, kn⟩ := σ
  obtain ⟨h1, h2, h3, h4, h5, h6, h7⟩ := hR
  obtain ⟨i1, i2, i3, i4, i5⟩ := hI
  have st := hk.2.2.2.2.2.1
  refine ⟨h1.kp hk, ⟨by rw [st 2 (by unfold stO; omega)]; exact h2.1, fun i hi => by rw [st 3 (by unfold stO; omega)]; exact h2.2 i hi⟩, ⟨by rw [hk.2.2.2.2.2.2]; exact h3.1, fun i hi => ?_⟩, ?_, ?_, hk.2.2.2.1 h6, hk.2.2.2.2.1 h7⟩
  · rw [st 70 (by unfold stO; omega), st 71 (by unfold stO; omega), st 72 (by unfold stO; omega), st 73 (by unfold stO; omega), st 74 (by unfold stO; omega)]
    exact h3.2 i hi
  · exact h4.ext (by omega) (st 22 (by unfold stO; omega) 1) (fun j => hk.2.1 23 j (by omega) (by omega)) (fun a g1 g2 j => st a (by unfold stO; omega) j)
  · exact h5.ext (by omega) (st 48 (by unfold stO; omega) 1) (fun j => hk.2.1 49 j (by omega) (by omega)) (fun a g1 g2 j => st a (by unfold stO; omega) j)
/-- what a question leaves as it is: of the reference -/
def KM (h h' : AH) : Prop := cn h' = cn h ∧ gr h' = gr h ∧ (∀ a, a = 2 ∨ (4 ≤ a ∧ a ≤ 8) → ∀ j, gi h' a j = gi h a j) ∧ ∀ j, j = 4 ∨ j = 6 ∨ j = 8 ∨ j = 10 → gi h' 1 j = gi h 1 j
theorem KM.rfl' {h : AH} : KM h h := ⟨rfl, rfl, fun _ _ _ => rfl, fun _ _ => rfl⟩
theorem KM.trans {a b c : AH} (h1 : KM a b) (h2 : KM b c) : KM a c := ⟨h2.1.trans h1.1, h2.2.1.trans h1.2.1, fun x hx j => (h2.2.2.1 x hx j).trans (h1.2.2.1 x hx j), fun j hj => (h2.2.2.2 j hj).trans (h1.2.2.2 j hj)⟩
theorem KM.si {h h' : AH} (hs : KM h h') {o j : Nat} {v : Int} (hP : (o ≠ 2 ∧ ¬ (4 ≤ o ∧ o ≤ 8) ∧ o ≠ 1) ∨ (o = 1 ∧ j ≠ 4 ∧ j ≠ 6 ∧ j ≠ 8 ∧ j ≠ 10)) : KM h (si h' o j v) := by
  refine ⟨hs.1, hs.2.1, fun a ha i => ?_, fun i hi => ?_⟩
  · rw [gi_si, if_neg (by omega)]; exact hs.2.2.1 a ha i
  · rw [gi_si, if_neg (by omega)]; exact hs.2.2.2 i hi
theorem RM.km {h h' : AH} {k w : Nat → Int} (hk : KM h h') (hR : RM h k w) : RM h' k w :=
  ⟨⟨hk.1.trans hR.1.1, fun q hq => by rw [hk.2.1]; exact hR.1.2 q hq⟩, fun j => (hk.2.2.1 2 (by omega) j).trans (hR.2.1 j), fun j => (hk.2.2.1 4 (by omega) j).trans (hR.2.2 j)⟩
theorem RepM.km {h h' : AH} {σ : ST} (hk : KM h h') (hR : RepM h σ) : RepM h' σ := by
  obtain ⟨k, w, tx, tl, td, tn, pa, un, ke, kn⟩ := σ
  obtain ⟨h1, h2, h3, h4, h5⟩ := hR
  have a := hk.2.2.1
  have b := hk.2.2.2
  exact ⟨h1.km hk, ⟨(b 8 (by omega)).trans h2.1, fun j => (a 7 (by omega) j).trans (h2.2 j)⟩, ⟨(b 10 (by omega)).trans h3.1, fun j => (a 8 (by omega) j).trans (h3.2 j)⟩, ⟨(b 4 (by omega)).trans h4.1, fun j => (a 5 (by omega) j).trans (h4.2 j)⟩, ⟨(b 6 (by omega)).trans h5.1, fun j => (a 6 (by omega) j).trans (h5.2 j)⟩⟩
/-- A PAIR OF CALLS answers alike, and both sides go on alike -/
def Pair (mC mM : MI) (as : List AV) (hC hM : AH) : Prop := ∃ (r : Int) (PC PM : AH → Prop), AM SC mC (.inr (.inr 1) :: as) hC (fun v h' => v = some (.inl r) ∧ PC h') ∧ AM SM mM (.inr (.inr 1) :: as) hM (fun v h' => v = some (.inl r) ∧ PM h') ∧ ∃ σ, InvS σ ∧ (∀ h, PC h → RepC h σ) ∧ ∀ h, PM h → RepM h σ
theorem Pair.ask {mC mM : MI} {as : List AV} {hC hM : AH} {σ : ST} (r : Int) (hI : InvS σ) (hRC : RepC hC σ) (hRM : RepM hM σ) (c : AM SC mC (.inr (.inr 1) :: as) hC (fun v h' => v = some (.inl r) ∧ KP hC h')) (m : AM SM mM (.inr (.inr 1) :: as) hM (fun v h' => v = some (.inl r) ∧ KM hM h')) : Pair mC mM as hC hM :=
  ⟨r, _, _, c, m, σ, hI, fun _ hk => hRC.kp hI hk, fun _ hk => hRM.km hk⟩
theorem Pair.go {mC mM : MI} {as : List AV} {hC hM : AH} {σ : ST} (r : Int) (hI : InvS σ) (c : AM SC mC (.inr (.inr 1) :: as) hC (fun v h' => v = some (.inl r) ∧ RepC h' σ)) (m : AM SM mM (.inr (.inr 1) :: as) hM (fun v h' => v = some (.inl r) ∧ RepM h' σ)) : Pair mC mM as hC hM :=
  ⟨r, _, _, c, m, σ, hI, fun _ hk => hk, fun _ hk => hk⟩
