/-! THE ABSTRACT MACHINE: values, heaps, worlds, and the judgement AW over it -/
abbrev AV : Type := Int ⊕ Int ⊕ Nat
abbrev LC : Type := List (Option AV)
abbrev AH : Type := Nat × (Nat → Nat → Int) × (Nat → Nat → Nat) × (Nat → Nat → Int)
abbrev Sys : Type := Nat → Option (Nat ⊕ (FieldType × Nat))
abbrev MI : Type := MethodName × ByteArray × Nat × Option FieldType × Room
def cn (h : AH) : Nat := h.1
def gi (h : AH) (o k : Nat) : Int := h.2.1 o k
def gr (h : AH) (o k : Nat) : Nat := h.2.2.1 o k
def gl (h : AH) (o k : Nat) : Int := h.2.2.2 o k
def up2 {α : Type} (f : Nat → Nat → α) (o k : Nat) (v : α) : Nat → Nat → α := fun a b => if a = o ∧ b = k then v else f a b
def si (h : AH) (o k : Nat) (v : Int) : AH := (h.1, up2 h.2.1 o k v, h.2.2.1, h.2.2.2)
def sr (h : AH) (o k : Nat) (v : Nat) : AH := (h.1, h.2.1, up2 h.2.2.1 o k v, h.2.2.2)
def sl (h : AH) (o k : Nat) (v : Int) : AH := (h.1, h.2.1, h.2.2.1, up2 h.2.2.2 o k v)
def nwo (h : AH) : AH := (h.1 + 1, (fun a b => if a = h.1 + 1 then 0 else h.2.1 a b), (fun a b => if a = h.1 + 1 then 0 else h.2.2.1 a b), (fun a b => if a = h.1 + 1 then 0 else h.2.2.2 a b))
def cpi (h : AH) (s sp d dp n : Nat) : AH := (h.1, (fun a b => if a = d ∧ dp ≤ b ∧ b < dp + n then h.2.1 s (sp + (b - dp)) else h.2.1 a b), h.2.2.1, h.2.2.2)
def rv (ad : Nat → Nat) (q : Nat) : Value := if q = 0 then .null else .ref (ad q)
def rq (ad : Nat → Nat) (q : Nat) : Option Nat := if q = 0 then none else some (ad q)
theorem rf_rq (ad : Nat → Nat) (q : Nat) : va_rf (rq ad q) = rv ad q := by
  unfold rq rv; split <;> rfl
def cv (ad : Nat → Nat) : AV → Value
  | .inl x => .int (Int32.ofInt x)
  | .inr (.inl x) => .long (Int64.ofInt x)
  | .inr (.inr q) => rv ad q
def okV (n : Nat) : AV → Prop
  | .inl x => ok32 x
  | .inr (.inl x) => ok64 x
  | .inr (.inr q) => q ≤ n
def okS (n : Nat) (st : List AV) : Prop := ∀ v ∈ st, okV n v
def lg : LC → Nat → Option AV
  | [], _ => none
  | a :: _, 0 => a
  | _ :: l, i + 1 => lg l i
def lu : LC → Nat → Option AV → LC
  | [], _, _ => []
  | _ :: l, 0, v => v :: l
  | a :: l, i + 1, v => a :: lu l i v
/-- a store: a long that began one place before is gone -/
def lst : LC → Nat → AV → LC
  | [], _, _ => []
  | _ :: l, 0, v => some v :: l
  | a :: l, 1, v => (match a with | some (.inr (.inl _)) => none | _ => a) :: lu l 0 (some v)
  | a :: l, i + 2, v => a :: lst l (i + 1) v
def okLs (n : Nat) (ls : LC) : Prop := ∀ i v, lg ls i = some v → okV n v
def okH (h : AH) : Prop := (∀ o k, ok32 (gi h o k)) ∧ (∀ o k, gr h o k ≤ cn h) ∧ ∀ o k, ok64 (gl h o k)
def kTs : List (Nat → FieldType) := [tyX0, tyX1, tyX2, tyX3, tyX4, tyX5, tyX6, tyX7, tyX8, tyX9, tyX10, tyX11, tyX12]
def FT (ci : Nat) : Nat → FieldType := kTs.getD ci (fun _ => .int)
def NF (ci : Nat) : Nat := ((vwCl[ci]?).map (fun q => q.2.2)).getD 0
def fv (ad : Nat → Nat) (h : AH) (o k : Nat) (ty : FieldType) : Value := match ty with
  | .long => .long (Int64.ofInt (gl h o k))
  | .object _ => rv ad (gr h o k)
  | .array _ => rv ad (gr h o k)
  | _ => .int (Int32.ofInt (gi h o k))
def ent (S : Sys) (cA : FieldType → ClassId) (ad : Nat → Nat) (h : AH) (o : Nat) : va_E := match S o with
  | some (.inl ci) => .inr (ci, (List.range (NF ci)).map (fun k => fv ad h o k (FT ci k)))
  | some (.inr (.object d, n)) => .inl (cA (.object d), n, .inr (.inr (.inr (.inr (fun k => rq ad (gr h o k))))))
  | some (.inr (ty, n)) => .inl (cA ty, n, .inl (fun k => Int32.ofInt (gi h o k)))
  | none => .inr (0, [])
def wld (S : Sys) (cA : FieldType → ClassId) (ad : Nat → Nat) (h : AH) : va_W := (List.range (cn h)).map (fun i => (ad (i + 1), ent S cA ad h (i + 1)))
def ATY : List FieldType := [.int, .boolean, .char, .object "SumsThatDiffer$Standing"]
def TYS (cA : FieldType → ClassId) : List (ClassId × FieldType) := ATY.map (fun t => (cA t, t))
def TB : List Cond := lw_tbl.filter goodWord
def isNest : Cond → Bool
  | .fieldLinkNest .. => true
  | .methodLinkNest .. => true
  | _ => false
def NB : List Cond := lw_tbl.filter isNest
def NBK (U : State) : Prop := (∀ w ∈ NB, va_Nw w U) ∧ va_AO "SumsThatDiffer$Standing" U
theorem NBK.warm {s U : State} (hW : s.WarmedH U.vm) (h : NBK s) : NBK U := by
  refine ⟨fun w hw => ?_, h.2.moved hW.alike⟩
  have h1 := h.1 w hw
  have h2 := (List.mem_filter.mp hw).2
  cases w <;> first | exact va_Nw.warmF hW h1 | exact va_Nw.warmM hW h1 | cases h2
theorem NBK.same {s U : State} (hv : s.vm = U.vm) (h : NBK s) : NBK U := by
  refine ⟨fun w hw => ?_, h.2.moved (hv ▸ Vm.Alike.refl s.vm)⟩
  have h1 := h.1 w hw
  have h2 := (List.mem_filter.mp hw).2
  cases w <;> first | exact va_Nw.same rfl hv h1 | cases h2
/-! the text that a new object is laid with, as a String constant -/
def FTX : String := "n4;r0,0,1,31,9;r0,1,2,18,22;r1,2,3,25,15;r2,3,0,20,20;r0,0,2,24,16;s0,50;j0;j1;j4;"
def FTB : List Int := [110, 52, 59, 114, 48, 44, 48, 44, 49, 44, 51, 49, 44, 57, 59, 114, 48, 44, 49, 44, 50, 44, 49, 56, 44, 50, 50, 59, 114, 49, 44, 50, 44, 51, 44, 50, 53, 44, 49, 53, 59, 114, 50, 44, 51, 44, 48, 44, 50, 48, 44, 50, 48, 59, 114, 48, 44, 48, 44, 50, 44, 50, 52, 44, 49, 54, 59, 115, 48, 44, 53, 48, 59, 106, 48, 59, 106, 49, 59, 106, 52, 59]
def FTL : List Int32 := FTB.map Int32.ofInt
def XS (A : Nat → Prop) (U : State) (H : Heap) : Prop := ∃ aK aV : Nat, vk_R "SumsThatDiffer" 86 FTX aK U ∧ vk_S 1 [82] [FTL] (fun _ => aK) (fun _ => aV) A U H ∧ va_Z "java/lang/String" "COMPACT_STRINGS" "Z" (.int 1) A U H ∧ va_Zq "jdk/internal/util/Preconditions" "SIOOBE_FORMATTER" "Ljava/util/function/BiFunction;" A U H
theorem XS.go {A B : Nat → Prop} {s U : State} {H : Heap} {locs : List Loc} (h : XS A s s.heap) (hS : va_S A s.heap H locs) (hAB : ∀ q, B q → A q) (hW : s.WarmedH U.vm) (hU : U.heap = H) : XS B U U.heap := by
  obtain ⟨aK, aV, h1, h2, h3, h4⟩ := h
  rw [hU]
  exact ⟨aK, aV, h1.warm hW, ((h2.kept hS.2.1).narrow hAB).moved hW.alike, ((h3.kept hS.2.1).narrow hAB).moved hW.alike, ((h4.kept hS.2.1).narrow hAB).moved hW.alike⟩
theorem XS.same {B : Nat → Prop} {s U : State} (hv : s.vm = U.vm) (hh : U.heap = s.heap) (h : XS B s s.heap) : XS B U U.heap := by
  obtain ⟨aK, aV, h1, h2, h3, h4⟩ := h
  rw [hh]
  exact ⟨aK, aV, vk_R.same hv.symm h1, h2.moved (hv ▸ Vm.Alike.refl s.vm), h3.moved (hv ▸ Vm.Alike.refl s.vm), h4.moved (hv ▸ Vm.Alike.refl s.vm)⟩
def wsM (mi : MI) : List Cond := Cond.code mi.1 mi.2.1 mi.2.2.1 mi.2.2.2.1 :: TB
def LR (ad : Nat → Nat) (lsc : Array Slot) (L : Nat) (ls : LC) : Prop := lsc.size = L ∧ lv_wf lsc ∧ ∀ i v, lg ls i = some v → lsc[i]? = some (.val (cv ad v))
def Post (S : Sys) (D : va_G) (cA : FieldType → ClassId) (A : Nat → Prop) (ad0 : Nat → Nat) (n0 : Nat) (Q : Option AV → AH → Prop) : Array Value → State → Outcome → State → Prop := fun _ st o t =>
  (∃ (v : Option AV) (h' : AH) (ad' : Nat → Nat), (∀ i, i ≤ n0 → ad' i = ad0 i) ∧ n0 ≤ cn h' ∧ o = .returned (v.map (cv ad')) ∧ Q v h' ∧ okS (cn h') v.toList ∧ okH h' ∧ va_P D vwCl (wld S cA ad' h') t.heap ∧ va_D A (wld S cA ad' h') ∧ va_K D vwCl (TYS cA) t) ∧ va_F A st t
section FR
variable (S : Sys) (mi : MI) (bc bs : Nat) (p : Program) (l : Launch) (e : Env) (s : State) (m : MethodId) (args : Array Value) (below : List Frame) (meth : Method) (c : Code) (D : va_G) (cA : FieldType → ClassId) (A : Nat → Prop) (H : Heap) (locs : List Loc) (cells slots : Nat) (ad ad0 : Nat → Nat) (n0 : Nat) (lsc : Array Slot)
def Ctx : Prop := p.tables.exec = Jvm.exec ∧ c.code = mi.2.1 ∧ c.maxLocals = mi.2.2.1 ∧ meth.sig.returnType = mi.2.2.2.1 ∧ (∀ w ∈ wsM mi, w.before args s = true) ∧ s.vm.findClass mi.1.cls = some m.cls ∧ meth.locks = false ∧ va_K D vwCl (TYS cA) s ∧ (∀ q, s.heap.size ≤ q → A q) ∧ meth.name = mi.1.name ∧ NBK s ∧ XS A s s.heap
def CX (ls : LC) (st : List AV) (h : AH) : Prop := Ctx mi p s m args meth c D cA A ∧ (va_P D vwCl (wld S cA ad h) H ∧ va_D A (wld S cA ad h) ∧ okH h) ∧ va_S A s.heap H locs ∧ (cells + bc ≤ mi.2.2.2.2.cells ∧ slots + bs ≤ mi.2.2.2.2.slots) ∧ ((∀ i, i ≤ n0 → ad i = ad0 i) ∧ n0 ≤ cn h) ∧ LR ad lsc mi.2.2.1 ls ∧ okLs (cn h) ls ∧ okS (cn h) st
end FR
/-- THE JUDGEMENT: from this place of the method, with these abstract locals, stack and heap, the method comes to its end with Q -/
def AW (S : Sys) (mi : MI) (bc bs : Nat) (pc : Nat) (ls : LC) (st : List AV) (h : AH) (Q : Option AV → AH → Prop) : Prop :=
  ∀ (p : Program) (l : Launch) (e : Env) (s : State) (m : MethodId) (args : Array Value) (below : List Frame) (meth : Method) (c : Code) (D : va_G) (cA : FieldType → ClassId) (A : Nat → Prop) (H : Heap) (locs : List Loc) (cells slots : Nat) (ad ad0 : Nat → Nat) (n0 : Nat) (lsc : Array Slot),
    CX S mi bc bs p s m args meth c D cA A H locs cells slots ad ad0 n0 lsc ls st h →
    W p l e mi.2.2.2.2 s m args below meth c H locs cells slots (MQ below (Post S D cA A ad0 n0 Q) args s mi.2.2.2.2.cells mi.2.2.2.2.slots A) (F0 m pc lsc (st.map (cv ad)))
/-- a method's contract -/
def AM (S : Sys) (mi : MI) (as : List AV) (h : AH) (Q : Option AV → AH → Prop) : Prop :=
  ∀ (l : Launch) (D : va_G) (cA : FieldType → ClassId) (ad : Nat → Nat) (sz : Nat), okH h → okS (cn h) as →
    Met l mi.1 (wsM mi) mi.2.2.2.2 (va_Pc (as.map (cv ad)) (fun U => U.heap.size = sz ∧ va_P D vwCl (wld S cA ad h) U.heap ∧ va_K D vwCl (TYS cA) U ∧ va_D (fun _ => True) (wld S cA ad h) ∧ NBK U ∧ XS (va_A (wld S cA ad h) sz) U U.heap)) (Post S D cA (va_A (wld S cA ad h) sz) ad (cn h) Q) mi.2.2.2.2.cells mi.2.2.2.2.slots (va_A (wld S cA ad h) sz)
theorem okS_cons {n : Nat} {v : AV} {st : List AV} : okS n (v :: st) ↔ okV n v ∧ okS n st := by simp [okS]
theorem okS_nil {n : Nat} : okS n [] := fun v h => by cases h
theorem lg_lu {l : LC} {i j : Nat} {v : Option AV} {w : AV} (h : lg (lu l i v) j = some w) : (j = i ∧ v = some w) ∨ (j ≠ i ∧ lg l j = some w) := by
  induction l generalizing i j with
  | nil => simp [lu, lg] at h
  | cons a l ih =>
    cases i with
    | zero =>
      cases j with
      | zero => exact Or.inl ⟨rfl, h⟩
      | succ j => exact Or.inr ⟨by omega, h⟩
    | succ i =>
      cases j with
      | zero => exact Or.inr ⟨by omega, h⟩
      | succ j =>
        rcases ih h with ⟨e1, e2⟩ | ⟨e1, e2⟩
        · exact Or.inl ⟨by omega, e2⟩
        · exact Or.inr ⟨by omega, e2⟩
theorem lg_lst {l : LC} {i j : Nat} {v : AV} {w : AV} (h : lg (lst l i v) j = some w) : (j = i ∧ v = w) ∨ (j ≠ i ∧ lg l j = some w ∧ ¬ (j + 1 = i ∧ ∃ x, w = .inr (.inl x))) := by
  induction l generalizing i j with
  | nil => simp [lst, lg] at h
  | cons a l ih =>
    match i with
    | 0 =>
      cases j with
      | zero => exact Or.inl ⟨rfl, by simpa [lst, lg] using h⟩
      | succ j => exact Or.inr ⟨by omega, h, by omega⟩
    | 1 =>
      cases j with
      | zero =>
        refine Or.inr ⟨by omega, ?_⟩
        simp only [lst, lg] at h
        rcases a with _ | (x | x | x)
        · cases h
        · exact ⟨h, fun q => by obtain ⟨-, y, hy⟩ := q; cases h; cases hy⟩
        · cases h
        · exact ⟨h, fun q => by obtain ⟨-, y, hy⟩ := q; cases h; cases hy⟩
      | succ j =>
        rcases lg_lu (show lg (lu l 0 (some v)) j = some w from h) with ⟨e1, e2⟩ | ⟨e1, e2⟩
        · exact Or.inl ⟨by omega, by cases e2; rfl⟩
        · exact Or.inr ⟨by omega, e2, by omega⟩
    | i + 2 =>
      cases j with
      | zero => exact Or.inr ⟨by omega, h, by omega⟩
      | succ j =>
        rcases ih (show lg (lst l (i + 1) v) j = some w from h) with ⟨e1, e2⟩ | ⟨e1, e2, e3⟩
        · exact Or.inl ⟨by omega, e2⟩
        · exact Or.inr ⟨by omega, e2, fun q => e3 ⟨by omega, q.2⟩⟩
/-- the listed locals, as the kit has them -/
def lpr (ad : Nat → Nat) : Nat → LC → List (Nat × Value)
  | _, [] => []
  | i, none :: l => lpr ad (i + 1) l
  | i, some v :: l => (i, cv ad v) :: lpr ad (i + 1) l
theorem mem_lpr {ad : Nat → Nat} {ls : LC} {i : Nat} {q : Nat × Value} : q ∈ lpr ad i ls ↔ ∃ k v, lg ls k = some v ∧ q = (i + k, cv ad v) := by
  induction ls generalizing i with
  | nil => simp [lpr, lg]
  | cons a l ih =>
    have key : (∃ k v, lg (a :: l) k = some v ∧ q = (i + k, cv ad v)) ↔ ((∃ v, a = some v ∧ q = (i, cv ad v)) ∨ ∃ k v, lg l k = some v ∧ q = (i + 1 + k, cv ad v)) := by
      constructor
      · rintro ⟨k, v, h1, h2⟩
        cases k with
        | zero => exact Or.inl ⟨v, h1, h2⟩
        | succ k => exact Or.inr ⟨k, v, h1, by rw [h2]; congr 1; omega⟩
      · rintro (⟨v, h1, h2⟩ | ⟨k, v, h1, h2⟩)
        · exact ⟨0, v, h1, h2⟩
        · exact ⟨k + 1, v, h1, by rw [h2]; congr 1; omega⟩
    rw [key]
    cases a with
    | none => simp [lpr, ih]
    | some v => simp [lpr, ih]
theorem LR.has {ad : Nat → Nat} {lsc : Array Slot} {L : Nat} {ls : LC} (h : LR ad lsc L ls) : lv_has lsc L (lpr ad 0 ls) := by
  refine ⟨h.1, h.2.1, fun q hq => ?_⟩
  obtain ⟨k, v, h1, rfl⟩ := mem_lpr.mp hq
  simpa using h.2.2 k v h1
theorem cv_cat {ad : Nat → Nat} {v : AV} : (cv ad v).category = 2 ↔ ∃ x, v = .inr (.inl x) := by
  rcases v with x | x | x
  · simp [cv, Value.category]
  · simp [cv, Value.category]
  · simp only [cv, rv]
    split <;> simp [Value.category]
theorem LR.st1 {ad : Nat → Nat} {lsc' : Array Slot} {L i : Nat} {ls : LC} {v : AV} (h : lv_has lsc' L ((i, cv ad v) :: (lpr ad 0 ls).filter (fun q => !(q.1 == i) && !(q.1 + 1 == i && q.2.category == 2)))) : LR ad lsc' L (lst ls i v) := by
  refine ⟨h.1, h.2.1, fun j w hj => ?_⟩
  rcases lg_lst hj with ⟨rfl, rfl⟩ | ⟨h1, h2, h3⟩
  · exact h.2.2 (j, _) List.mem_cons_self
  · refine h.2.2 (j, cv ad w) (List.mem_cons_of_mem _ (List.mem_filter.mpr ⟨mem_lpr.mpr ⟨j, w, h2, by simp⟩, ?_⟩))
    have h4 : ¬ (j + 1 = i ∧ (cv ad w).category = 2) := fun q => h3 ⟨q.1, cv_cat.mp q.2⟩
    simp only [Bool.and_eq_true, Bool.not_eq_true', beq_eq_false_iff_ne, ne_eq, Bool.and_eq_false_iff]
    refine ⟨h1, ?_⟩
    by_cases h5 : j + 1 = i
    · exact Or.inr fun q => h4 ⟨h5, q⟩
    · exact Or.inl h5
theorem LR.st2 {ad : Nat → Nat} {lsc' : Array Slot} {L i : Nat} {ls : LC} {v : AV} (h : lv_has lsc' L ((i, cv ad v) :: (lpr ad 0 ls).filter (fun q => !(q.1 == i) && (!(q.1 == i + 1) && !(q.1 + 1 == i && q.2.category == 2))))) : LR ad lsc' L (lu (lst ls i v) (i + 1) none) := by
  refine ⟨h.1, h.2.1, fun j w hj => ?_⟩
  rcases lg_lu hj with ⟨-, h0⟩ | ⟨hne, hj⟩
  · cases h0
  rcases lg_lst hj with ⟨rfl, rfl⟩ | ⟨h1, h2, h3⟩
  · exact h.2.2 (j, _) List.mem_cons_self
  · refine h.2.2 (j, cv ad w) (List.mem_cons_of_mem _ (List.mem_filter.mpr ⟨mem_lpr.mpr ⟨j, w, h2, by simp⟩, ?_⟩))
    have h4 : ¬ (j + 1 = i ∧ (cv ad w).category = 2) := fun q => h3 ⟨q.1, cv_cat.mp q.2⟩
    simp only [Bool.and_eq_true, Bool.not_eq_true', beq_eq_false_iff_ne, ne_eq, Bool.and_eq_false_iff]
    refine ⟨h1, hne, ?_⟩
    by_cases h5 : j + 1 = i
    · exact Or.inr fun q => h4 ⟨h5, q⟩
    · exact Or.inl h5
theorem okLs_lst {n : Nat} {ls : LC} {i : Nat} {v : AV} (h : okLs n ls) (hv : okV n v) : okLs n (lst ls i v) := by
  intro j w hj
  rcases lg_lst hj with ⟨-, rfl⟩ | ⟨-, h2, -⟩
  · exact hv
  · exact h j w h2
theorem okLs_lu {n : Nat} {ls : LC} {i : Nat} (h : okLs n ls) : okLs n (lu ls i none) := by
  intro j w hj
  rcases lg_lu hj with ⟨-, h2⟩ | ⟨-, h2⟩
  · cases h2
  · exact h j w h2
theorem wld_at {S : Sys} {cA : FieldType → ClassId} {ad : Nat → Nat} {h : AH} {o : Nat} (h1 : 1 ≤ o) (h2 : o ≤ cn h) : (wld S cA ad h)[o - 1]? = some (ad o, ent S cA ad h o) := by
  unfold wld
  rw [List.getElem?_map, List.getElem?_range (by omega)]
  simp only [Option.map_some]
  rw [show o - 1 + 1 = o by omega]
theorem wld_set {S : Sys} {cA : FieldType → ClassId} {ad : Nat → Nat} {h h' : AH} {o : Nat} {x : va_E} (h1 : 1 ≤ o) (hc : cn h' = cn h) (hx : x = ent S cA ad h' o) (hne : ∀ a, a ≠ o → ent S cA ad h' a = ent S cA ad h a) : (wld S cA ad h).set (o - 1) (ad o, x) = wld S cA ad h' := by
  subst hx
  apply List.ext_getElem?
  intro k
  unfold wld
  rw [List.getElem?_set, hc]
  by_cases hk : o - 1 = k
  · subst hk
    simp only [List.length_map, List.length_range, List.getElem?_map, ite_true]
    by_cases hl : o - 1 < cn h
    · rw [if_pos hl, List.getElem?_range hl]
      simp only [Option.map_some]
      rw [show o - 1 + 1 = o by omega]
    · rw [if_neg hl, List.getElem?_eq_none (by simp; omega)]
      rfl
  · rw [if_neg hk, List.getElem?_map, List.getElem?_map]
    by_cases hl : k < cn h
    · rw [List.getElem?_range hl]
      simp only [Option.map_some]
      rw [hne (k + 1) (by omega)]
    · rw [List.getElem?_eq_none (by simp; omega)]
      rfl
