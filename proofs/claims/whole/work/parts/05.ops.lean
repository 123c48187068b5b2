/-! THE OPERATIONS: each a transformer of predicates, and sound for the machine -/
abbrev Op : Type := (Nat → Nat → LC → List AV → AH → Prop) → (Nat → Nat → Nat → LC → List AV → AH → Prop) → (Option AV → AH → Prop) → Nat → Nat → LC → List AV → AH → Prop
def SO (S : Sys) (mi : MI) (pc pc' : Nat) (tg : Nat → Nat) (op : Op) : Prop := ∀ (next : Nat → Nat → LC → List AV → AH → Prop) (J : Nat → Nat → Nat → LC → List AV → AH → Prop) (Q : Option AV → AH → Prop) (bc bs : Nat) (ls : LC) (st : List AV) (h : AH),
  (∀ bc bs ls st h, next bc bs ls st h → AW S mi bc bs pc' ls st h Q) → (∀ t bc bs ls st h, J t bc bs ls st h → AW S mi bc bs (tg t) ls st h Q) → op next J Q bc bs ls st h → AW S mi bc bs pc ls st h Q
section CXl
variable {S : Sys} {mi : MI} {bc bs : Nat} {p : Program} {l : Launch} {e : Env} {s : State} {m : MethodId} {args : Array Value} {below : List Frame} {meth : Method} {c : Code} {D : va_G} {cA : FieldType → ClassId} {A : Nat → Prop} {H : Heap} {locs : List Loc} {cells slots : Nat} {ad ad0 : Nat → Nat} {n0 : Nat} {lsc : Array Slot} {ls : LC} {st : List AV} {h : AH}
theorem CXst (X : CX S mi bc bs p s m args meth c D cA A H locs cells slots ad ad0 n0 lsc ls st h) {st' : List AV} (h' : okS (cn h) st') : CX S mi bc bs p s m args meth c D cA A H locs cells slots ad ad0 n0 lsc ls st' h :=
  ⟨X.1, X.2.1, X.2.2.1, X.2.2.2.1, X.2.2.2.2.1, X.2.2.2.2.2.1, X.2.2.2.2.2.2.1, h'⟩
theorem CXls (X : CX S mi bc bs p s m args meth c D cA A H locs cells slots ad ad0 n0 lsc ls st h) {st' : List AV} {ls' : LC} {lsc' : Array Slot} (h' : okS (cn h) st') (hL : LR ad lsc' mi.2.2.1 ls') (hk : okLs (cn h) ls') : CX S mi bc bs p s m args meth c D cA A H locs cells slots ad ad0 n0 lsc' ls' st' h :=
  ⟨X.1, X.2.1, X.2.2.1, X.2.2.2.1, X.2.2.2.2.1, hL, hk, h'⟩
/-- the heap has changed, no cell is new -/
theorem CXhp (X : CX S mi bc bs p s m args meth c D cA A H locs cells slots ad ad0 n0 lsc ls st h) {st' : List AV} {h' : AH} {H1 : Heap} {locs1 : List Loc} (hc : cn h' = cn h) (hP : va_P D vwCl (wld S cA ad h') H1) (hD : va_D A (wld S cA ad h')) (hS : va_S A s.heap H1 locs1) (hH : okH h') (hst : okS (cn h) st') : CX S mi bc bs p s m args meth c D cA A H1 locs1 cells slots ad ad0 n0 lsc ls st' h' :=
  ⟨X.1, ⟨hP, hD, hH⟩, hS, X.2.2.2.1, ⟨X.2.2.2.2.1.1, by rw [hc]; exact X.2.2.2.2.1.2⟩, X.2.2.2.2.2.1, by rw [hc]; exact X.2.2.2.2.2.2.1, by rw [hc]; exact hst⟩
end CXl
section OPS
variable {S : Sys} {mi : MI} {pc : Nat} {tg : Nat → Nat}
theorem tb_use {mi : MI} {args : Array Value} {s : State} (hts : ∀ w ∈ wsM mi, w.before args s = true) {w : Cond} (hw : w ∈ TB) : w.before args s = true := hts w (List.mem_cons_of_mem _ hw)
theorem nb_in {w : Cond} (i : Nat) (h : lw_tbl[i]? = some w) (hg : isNest w = true) : w ∈ NB := List.mem_filter.mpr ⟨List.mem_of_getElem? h, hg⟩
theorem tb_in {w : Cond} (i : Nat) (h : lw_tbl[i]? = some w) (hg : goodWord w = true) : w ∈ TB := List.mem_filter.mpr ⟨List.mem_of_getElem? h, hg⟩

def op_ci (n : Int) : Op := fun next _ _ bc bs ls st h => next bc bs ls (.inl n :: st) h
theorem so_iconst {n : Int} (hd : decode mi.2.1 pc = .ok (.iconst n, 1)) (h32 : ok32 n) : SO S mi pc (pc + 1) tg (op_ci n) := by
  intro next J Q bc bs ls st h hn hJ hop
  intro p l e s m args below meth c D cA A H locs cells slots ad ad0 n0 lsc X
  obtain ⟨hC, ⟨hP, hD, hH⟩, hS, hB, hA0, hL, hok, hst⟩ := id X
  obtain ⟨hx, hb, hml, hr, hts, hown, hlk, hK, hAq, hnm, hNB⟩ := id hC
  refine lv_iconst (v := Int32.ofInt n) hx hb hd rfl ?_
  exact hn _ _ _ _ _ hop p l e s m args below meth c D cA A H locs cells slots ad ad0 n0 lsc (CXst X (okS_cons.mpr ⟨h32, hst⟩))
theorem so_bipush {n : Int} (hd : decode mi.2.1 pc = .ok (.bipush n, 2)) (hv : (Int8.ofInt n).toInt32 = Int32.ofInt n) (h32 : ok32 n) : SO S mi pc (pc + 2) tg (op_ci n) := by
  intro next J Q bc bs ls st h hn hJ hop
  intro p l e s m args below meth c D cA A H locs cells slots ad ad0 n0 lsc X
  obtain ⟨hC, ⟨hP, hD, hH⟩, hS, hB, hA0, hL, hok, hst⟩ := id X
  obtain ⟨hx, hb, hml, hr, hts, hown, hlk, hK, hAq, hnm, hNB⟩ := id hC
  refine lv_bipush (v := Int32.ofInt n) hx hb hd hv ?_
  exact hn _ _ _ _ _ hop p l e s m args below meth c D cA A H locs cells slots ad ad0 n0 lsc (CXst X (okS_cons.mpr ⟨h32, hst⟩))
theorem so_sipush {n : Int} (hd : decode mi.2.1 pc = .ok (.sipush n, 3)) (hv : (Int16.ofInt n).toInt32 = Int32.ofInt n) (h32 : ok32 n) : SO S mi pc (pc + 3) tg (op_ci n) := by
  intro next J Q bc bs ls st h hn hJ hop
  intro p l e s m args below meth c D cA A H locs cells slots ad ad0 n0 lsc X
  obtain ⟨hC, ⟨hP, hD, hH⟩, hS, hB, hA0, hL, hok, hst⟩ := id X
  obtain ⟨hx, hb, hml, hr, hts, hown, hlk, hK, hAq, hnm, hNB⟩ := id hC
  refine lv_sipush (v := Int32.ofInt n) hx hb hd hv ?_
  exact hn _ _ _ _ _ hop p l e s m args below meth c D cA A H locs cells slots ad ad0 n0 lsc (CXst X (okS_cons.mpr ⟨h32, hst⟩))
theorem so_ldc {n : Int} {index : Nat} (hd : decode mi.2.1 pc = .ok (.ldc index, 2)) (hw : Cond.constant mi.1.cls index (Int32.ofInt n) ∈ TB) (h32 : ok32 n) : SO S mi pc (pc + 2) tg (op_ci n) := by
  intro next J Q bc bs ls st h hn hJ hop
  intro p l e s m args below meth c D cA A H locs cells slots ad ad0 n0 lsc X
  obtain ⟨hC, ⟨hP, hD, hH⟩, hS, hB, hA0, hL, hok, hst⟩ := id X
  obtain ⟨hx, hb, hml, hr, hts, hown, hlk, hK, hAq, hnm, hNB⟩ := id hC
  refine lv_ldc hx hb hown (tb_use hts hw) hd ?_
  exact hn _ _ _ _ _ hop p l e s m args below meth c D cA A H locs cells slots ad ad0 n0 lsc (CXst X (okS_cons.mpr ⟨h32, hst⟩))
theorem so_ldcw {n : Int} {index : Nat} (hd : decode mi.2.1 pc = .ok (.ldc_w index, 3)) (hw : Cond.constant mi.1.cls index (Int32.ofInt n) ∈ TB) (h32 : ok32 n) : SO S mi pc (pc + 3) tg (op_ci n) := by
  intro next J Q bc bs ls st h hn hJ hop
  intro p l e s m args below meth c D cA A H locs cells slots ad ad0 n0 lsc X
  obtain ⟨hC, ⟨hP, hD, hH⟩, hS, hB, hA0, hL, hok, hst⟩ := id X
  obtain ⟨hx, hb, hml, hr, hts, hown, hlk, hK, hAq, hnm, hNB⟩ := id hC
  refine lv_ldcw hx hb hown (tb_use hts hw) hd ?_
  exact hn _ _ _ _ _ hop p l e s m args below meth c D cA A H locs cells slots ad ad0 n0 lsc (CXst X (okS_cons.mpr ⟨h32, hst⟩))
def op_cl (n : Int) : Op := fun next _ _ bc bs ls st h => next bc bs ls (.inr (.inl n) :: st) h
theorem so_lconst {n : Int} {k : Fin 2} (hd : decode mi.2.1 pc = .ok (.lconst k, 1)) (hv : Int64.ofNat (k : Nat) = Int64.ofInt n) (h64 : ok64 n) : SO S mi pc (pc + 1) tg (op_cl n) := by
  intro next J Q bc bs ls st h hn hJ hop
  intro p l e s m args below meth c D cA A H locs cells slots ad ad0 n0 lsc X
  obtain ⟨hC, ⟨hP, hD, hH⟩, hS, hB, hA0, hL, hok, hst⟩ := id X
  obtain ⟨hx, hb, hml, hr, hts, hown, hlk, hK, hAq, hnm, hNB⟩ := id hC
  refine lv_lconst (v := Int64.ofInt n) hx hb hd hv ?_
  exact hn _ _ _ _ _ hop p l e s m args below meth c D cA A H locs cells slots ad ad0 n0 lsc (CXst X (okS_cons.mpr ⟨h64, hst⟩))
theorem so_ldc2 {n : Int} {index : Nat} (hd : decode mi.2.1 pc = .ok (.ldc2_w index, 3)) (hw : Cond.constantLong mi.1.cls index (Int64.ofInt n) ∈ TB) (h64 : ok64 n) : SO S mi pc (pc + 3) tg (op_cl n) := by
  intro next J Q bc bs ls st h hn hJ hop
  intro p l e s m args below meth c D cA A H locs cells slots ad ad0 n0 lsc X
  obtain ⟨hC, ⟨hP, hD, hH⟩, hS, hB, hA0, hL, hok, hst⟩ := id X
  obtain ⟨hx, hb, hml, hr, hts, hown, hlk, hK, hAq, hnm, hNB⟩ := id hC
  refine lv_ldc2 hx hb hown (tb_use hts hw) hd ?_
  exact hn _ _ _ _ _ hop p l e s m args below meth c D cA A H locs cells slots ad ad0 n0 lsc (CXst X (okS_cons.mpr ⟨h64, hst⟩))
def op_iload (i : Nat) : Op := fun next _ _ bc bs ls st h => match lg ls i with
  | some (.inl x) => next bc bs ls (.inl x :: st) h
  | _ => False
theorem so_iload_n {i : Nat} {k : Fin 4} (hd : decode mi.2.1 pc = .ok (.iload_n k, 1)) (hk : (k : Nat) = i) : SO S mi pc (pc + 1) tg (op_iload i) := by
  intro next J Q bc bs ls st h hn hJ hop
  unfold op_iload at hop
  split at hop
  · rename_i x hlg
    intro p l e s m args below meth c D cA A H locs cells slots ad ad0 n0 lsc X
    obtain ⟨hC, ⟨hP, hD, hH⟩, hS, hB, hA0, hL, hok, hst⟩ := id X
    obtain ⟨hx, hb, hml, hr, hts, hown, hlk, hK, hAq, hnm, hNB⟩ := id hC
    refine lv_iload_n hx hb hd hk (hL.2.2 i _ hlg) ?_
    exact hn _ _ _ _ _ hop p l e s m args below meth c D cA A H locs cells slots ad ad0 n0 lsc (CXst X (okS_cons.mpr ⟨hok i _ hlg, hst⟩))
  · exact hop.elim
theorem so_iload {i : Nat} (hd : decode mi.2.1 pc = .ok (.iload i, 2)) : SO S mi pc (pc + 2) tg (op_iload i) := by
  intro next J Q bc bs ls st h hn hJ hop
  unfold op_iload at hop
  split at hop
  · rename_i x hlg
    intro p l e s m args below meth c D cA A H locs cells slots ad ad0 n0 lsc X
    obtain ⟨hC, ⟨hP, hD, hH⟩, hS, hB, hA0, hL, hok, hst⟩ := id X
    obtain ⟨hx, hb, hml, hr, hts, hown, hlk, hK, hAq, hnm, hNB⟩ := id hC
    refine lv_iload hx hb hd (hL.2.2 i _ hlg) ?_
    exact hn _ _ _ _ _ hop p l e s m args below meth c D cA A H locs cells slots ad ad0 n0 lsc (CXst X (okS_cons.mpr ⟨hok i _ hlg, hst⟩))
  · exact hop.elim
def op_lload (i : Nat) : Op := fun next _ _ bc bs ls st h => match lg ls i with
  | some (.inr (.inl x)) => next bc bs ls (.inr (.inl x) :: st) h
  | _ => False
theorem so_lload_n {i : Nat} {k : Fin 4} (hd : decode mi.2.1 pc = .ok (.lload_n k, 1)) (hk : (k : Nat) = i) : SO S mi pc (pc + 1) tg (op_lload i) := by
  intro next J Q bc bs ls st h hn hJ hop
  unfold op_lload at hop
  split at hop
  · rename_i x hlg
    intro p l e s m args below meth c D cA A H locs cells slots ad ad0 n0 lsc X
    obtain ⟨hC, ⟨hP, hD, hH⟩, hS, hB, hA0, hL, hok, hst⟩ := id X
    obtain ⟨hx, hb, hml, hr, hts, hown, hlk, hK, hAq, hnm, hNB⟩ := id hC
    refine lv_lload_n hx hb hd hk (hL.2.2 i _ hlg) ?_
    exact hn _ _ _ _ _ hop p l e s m args below meth c D cA A H locs cells slots ad ad0 n0 lsc (CXst X (okS_cons.mpr ⟨hok i _ hlg, hst⟩))
  · exact hop.elim
theorem so_lload {i : Nat} (hd : decode mi.2.1 pc = .ok (.lload i, 2)) : SO S mi pc (pc + 2) tg (op_lload i) := by
  intro next J Q bc bs ls st h hn hJ hop
  unfold op_lload at hop
  split at hop
  · rename_i x hlg
    intro p l e s m args below meth c D cA A H locs cells slots ad ad0 n0 lsc X
    obtain ⟨hC, ⟨hP, hD, hH⟩, hS, hB, hA0, hL, hok, hst⟩ := id X
    obtain ⟨hx, hb, hml, hr, hts, hown, hlk, hK, hAq, hnm, hNB⟩ := id hC
    refine lv_lload hx hb hd (hL.2.2 i _ hlg) ?_
    exact hn _ _ _ _ _ hop p l e s m args below meth c D cA A H locs cells slots ad ad0 n0 lsc (CXst X (okS_cons.mpr ⟨hok i _ hlg, hst⟩))
  · exact hop.elim
def op_aload (i : Nat) : Op := fun next _ _ bc bs ls st h => match lg ls i with
  | some (.inr (.inr x)) => next bc bs ls (.inr (.inr x) :: st) h
  | _ => False
theorem so_aload_n {i : Nat} {k : Fin 4} (hd : decode mi.2.1 pc = .ok (.aload_n k, 1)) (hk : (k : Nat) = i) : SO S mi pc (pc + 1) tg (op_aload i) := by
  intro next J Q bc bs ls st h hn hJ hop
  unfold op_aload at hop
  split at hop
  · rename_i x hlg
    intro p l e s m args below meth c D cA A H locs cells slots ad ad0 n0 lsc X
    obtain ⟨hC, ⟨hP, hD, hH⟩, hS, hB, hA0, hL, hok, hst⟩ := id X
    obtain ⟨hx, hb, hml, hr, hts, hown, hlk, hK, hAq, hnm, hNB⟩ := id hC
    have h1 := hL.2.2 i _ hlg
    have h2 := hn _ _ _ _ _ hop p l e s m args below meth c D cA A H locs cells slots ad ad0 n0 lsc (CXst X (okS_cons.mpr ⟨hok i _ hlg, hst⟩))
    simp only [cv, rv, List.map_cons] at h1 h2
    by_cases hz : x = 0
    · rw [if_pos hz] at h1 h2
      exact lv_aload_nN hx hb hd hk h1 h2
    · rw [if_neg hz] at h1 h2
      exact lv_aload_n hx hb hd hk h1 h2
  · exact hop.elim
theorem so_aload {i : Nat} (hd : decode mi.2.1 pc = .ok (.aload i, 2)) : SO S mi pc (pc + 2) tg (op_aload i) := by
  intro next J Q bc bs ls st h hn hJ hop
  unfold op_aload at hop
  split at hop
  · rename_i x hlg
    intro p l e s m args below meth c D cA A H locs cells slots ad ad0 n0 lsc X
    obtain ⟨hC, ⟨hP, hD, hH⟩, hS, hB, hA0, hL, hok, hst⟩ := id X
    obtain ⟨hx, hb, hml, hr, hts, hown, hlk, hK, hAq, hnm, hNB⟩ := id hC
    have h1 := hL.2.2 i _ hlg
    have h2 := hn _ _ _ _ _ hop p l e s m args below meth c D cA A H locs cells slots ad ad0 n0 lsc (CXst X (okS_cons.mpr ⟨hok i _ hlg, hst⟩))
    simp only [cv, rv, List.map_cons] at h1 h2
    by_cases hz : x = 0
    · rw [if_pos hz] at h1 h2
      exact lv_aloadN hx hb hd h1 h2
    · rw [if_neg hz] at h1 h2
      exact lv_aload hx hb hd h1 h2
  · exact hop.elim
def op_istore (i : Nat) : Op := fun next _ _ bc bs ls st h => match st with
  | .inl x :: st => next bc bs (lst ls i (.inl x)) st h
  | _ => False
theorem so_istore_n {i : Nat} {k : Fin 4} (hd : decode mi.2.1 pc = .ok (.istore_n k, 1)) (hk : (k : Nat) = i) (hi : i < mi.2.2.1) : SO S mi pc (pc + 1) tg (op_istore i) := by
  intro next J Q bc bs ls st h hn hJ hop
  unfold op_istore at hop
  split at hop
  · rename_i x st
    intro p l e s m args below meth c D cA A H locs cells slots ad ad0 n0 lsc X
    obtain ⟨hC, ⟨hP, hD, hH⟩, hS, hB, hA0, hL, hok, hst⟩ := id X
    obtain ⟨hx, hb, hml, hr, hts, hown, hlk, hK, hAq, hnm, hNB⟩ := id hC
    rw [okS_cons] at hst
    refine lv_istore_n hx hb hd hk hL.has hi rfl (fun lsc' hl' => ?_)
    exact hn _ _ _ _ _ hop p l e s m args below meth c D cA A H locs cells slots ad ad0 n0 lsc' (CXls X hst.2 (LR.st1 (v := .inl x) hl') (okLs_lst hok hst.1))
  · exact hop.elim
theorem so_istore {i : Nat} (hd : decode mi.2.1 pc = .ok (.istore i, 2)) (hi : i < mi.2.2.1) : SO S mi pc (pc + 2) tg (op_istore i) := by
  intro next J Q bc bs ls st h hn hJ hop
  unfold op_istore at hop
  split at hop
  · rename_i x st
    intro p l e s m args below meth c D cA A H locs cells slots ad ad0 n0 lsc X
    obtain ⟨hC, ⟨hP, hD, hH⟩, hS, hB, hA0, hL, hok, hst⟩ := id X
    obtain ⟨hx, hb, hml, hr, hts, hown, hlk, hK, hAq, hnm, hNB⟩ := id hC
    rw [okS_cons] at hst
    refine lv_istore hx hb hd hL.has hi rfl (fun lsc' hl' => ?_)
    exact hn _ _ _ _ _ hop p l e s m args below meth c D cA A H locs cells slots ad ad0 n0 lsc' (CXls X hst.2 (LR.st1 (v := .inl x) hl') (okLs_lst hok hst.1))
  · exact hop.elim
def op_lstore (i : Nat) : Op := fun next _ _ bc bs ls st h => match st with
  | .inr (.inl x) :: st => next bc bs (lu (lst ls i (.inr (.inl x))) (i + 1) none) st h
  | _ => False
theorem so_lstore_n {i : Nat} {k : Fin 4} (hd : decode mi.2.1 pc = .ok (.lstore_n k, 1)) (hk : (k : Nat) = i) (hi : i + 1 < mi.2.2.1) : SO S mi pc (pc + 1) tg (op_lstore i) := by
  intro next J Q bc bs ls st h hn hJ hop
  unfold op_lstore at hop
  split at hop
  · rename_i x st
    intro p l e s m args below meth c D cA A H locs cells slots ad ad0 n0 lsc X
    obtain ⟨hC, ⟨hP, hD, hH⟩, hS, hB, hA0, hL, hok, hst⟩ := id X
    obtain ⟨hx, hb, hml, hr, hts, hown, hlk, hK, hAq, hnm, hNB⟩ := id hC
    rw [okS_cons] at hst
    refine lv_lstore_n hx hb hd hk hL.has hi rfl (fun lsc' hl' => ?_)
    exact hn _ _ _ _ _ hop p l e s m args below meth c D cA A H locs cells slots ad ad0 n0 lsc' (CXls X hst.2 (LR.st2 (v := .inr (.inl x)) hl') (okLs_lu (okLs_lst hok hst.1)))
  · exact hop.elim
theorem so_lstore {i : Nat} (hd : decode mi.2.1 pc = .ok (.lstore i, 2)) (hi : i + 1 < mi.2.2.1) : SO S mi pc (pc + 2) tg (op_lstore i) := by
  intro next J Q bc bs ls st h hn hJ hop
  unfold op_lstore at hop
  split at hop
  · rename_i x st
    intro p l e s m args below meth c D cA A H locs cells slots ad ad0 n0 lsc X
    obtain ⟨hC, ⟨hP, hD, hH⟩, hS, hB, hA0, hL, hok, hst⟩ := id X
    obtain ⟨hx, hb, hml, hr, hts, hown, hlk, hK, hAq, hnm, hNB⟩ := id hC
    rw [okS_cons] at hst
    refine lv_lstore hx hb hd hL.has hi rfl (fun lsc' hl' => ?_)
    exact hn _ _ _ _ _ hop p l e s m args below meth c D cA A H locs cells slots ad ad0 n0 lsc' (CXls X hst.2 (LR.st2 (v := .inr (.inl x)) hl') (okLs_lu (okLs_lst hok hst.1)))
  · exact hop.elim
def op_astore (i : Nat) : Op := fun next _ _ bc bs ls st h => match st with
  | .inr (.inr x) :: st => next bc bs (lst ls i (.inr (.inr x))) st h
  | _ => False
theorem so_astore_n {i : Nat} {k : Fin 4} (hd : decode mi.2.1 pc = .ok (.astore_n k, 1)) (hk : (k : Nat) = i) (hi : i < mi.2.2.1) : SO S mi pc (pc + 1) tg (op_astore i) := by
  intro next J Q bc bs ls st h hn hJ hop
  unfold op_astore at hop
  split at hop
  · rename_i x st
    intro p l e s m args below meth c D cA A H locs cells slots ad ad0 n0 lsc X
    obtain ⟨hC, ⟨hP, hD, hH⟩, hS, hB, hA0, hL, hok, hst⟩ := id X
    obtain ⟨hx, hb, hml, hr, hts, hown, hlk, hK, hAq, hnm, hNB⟩ := id hC
    rw [okS_cons] at hst
    have h2 := fun (lsc' : Array Slot) hl' => hn _ _ _ _ _ hop p l e s m args below meth c D cA A H locs cells slots ad ad0 n0 lsc' (CXls X hst.2 (LR.st1 (v := .inr (.inr x)) hl') (okLs_lst hok hst.1))
    simp only [cv, rv, List.map_cons] at h2 ⊢
    by_cases hz : x = 0
    · rw [if_pos hz] at h2 ⊢
      exact lv_astore_nN hx hb hd hk hL.has hi rfl (fun lsc' hl' => h2 lsc' hl')
    · rw [if_neg hz] at h2 ⊢
      exact lv_astore_n hx hb hd hk hL.has hi rfl (fun lsc' hl' => h2 lsc' hl')
  · exact hop.elim
theorem so_astore {i : Nat} (hd : decode mi.2.1 pc = .ok (.astore i, 2)) (hi : i < mi.2.2.1) : SO S mi pc (pc + 2) tg (op_astore i) := by
  intro next J Q bc bs ls st h hn hJ hop
  unfold op_astore at hop
  split at hop
  · rename_i x st
    intro p l e s m args below meth c D cA A H locs cells slots ad ad0 n0 lsc X
    obtain ⟨hC, ⟨hP, hD, hH⟩, hS, hB, hA0, hL, hok, hst⟩ := id X
    obtain ⟨hx, hb, hml, hr, hts, hown, hlk, hK, hAq, hnm, hNB⟩ := id hC
    rw [okS_cons] at hst
    have h2 := fun (lsc' : Array Slot) hl' => hn _ _ _ _ _ hop p l e s m args below meth c D cA A H locs cells slots ad ad0 n0 lsc' (CXls X hst.2 (LR.st1 (v := .inr (.inr x)) hl') (okLs_lst hok hst.1))
    simp only [cv, rv, List.map_cons] at h2 ⊢
    by_cases hz : x = 0
    · rw [if_pos hz] at h2 ⊢
      exact lv_astoreN hx hb hd hL.has hi rfl (fun lsc' hl' => h2 lsc' hl')
    · rw [if_neg hz] at h2 ⊢
      exact lv_astore hx hb hd hL.has hi rfl (fun lsc' hl' => h2 lsc' hl')
  · exact hop.elim
def op_iinc (i : Nat) (n : Int) : Op := fun next _ _ bc bs ls st h => match lg ls i with
  | some (.inl x) => next bc bs (lst ls i (.inl (wr (x + n)))) st h
  | _ => False
theorem so_iinc {i : Nat} {n : Int} (hd : decode mi.2.1 pc = .ok (.iinc i n, 3)) (hi : i < mi.2.2.1) : SO S mi pc (pc + 3) tg (op_iinc i n) := by
  intro next J Q bc bs ls st h hn hJ hop
  unfold op_iinc at hop
  split at hop
  · rename_i x hlg
    intro p l e s m args below meth c D cA A H locs cells slots ad ad0 n0 lsc X
    obtain ⟨hC, ⟨hP, hD, hH⟩, hS, hB, hA0, hL, hok, hst⟩ := id X
    obtain ⟨hx, hb, hml, hr, hts, hown, hlk, hK, hAq, hnm, hNB⟩ := id hC
    obtain ⟨k, hk⟩ := List.getElem?_of_mem (mem_lpr.mpr ⟨i, _, hlg, rfl⟩ : (0 + i, cv ad (.inl x)) ∈ lpr ad 0 ls)
    rw [Nat.zero_add] at hk
    refine lv_iinc (v := Int32.ofInt (wr (x + n))) hx hb hd hL.has hk (by rw [i32_wr, Int32.ofInt_add]) hi rfl (fun lsc' hl' => ?_)
    exact hn _ _ _ _ _ hop p l e s m args below meth c D cA A H locs cells slots ad ad0 n0 lsc' (CXls X hst (LR.st1 (v := .inl (wr (x + n))) hl') (okLs_lst hok (ok32_wr _)))
  · exact hop.elim
def op_iadd : Op := fun next _ _ bc bs ls st h => match st with
  | .inl b :: .inl a :: st => next bc bs ls (.inl (wr (a + b)) :: st) h
  | _ => False
theorem so_iadd (hd : decode mi.2.1 pc = .ok (.iadd, 1)) : SO S mi pc (pc + 1) tg op_iadd := by
  intro next J Q bc bs ls st h hn hJ hop
  unfold op_iadd at hop
  split at hop
  · rename_i b a st
    intro p l e s m args below meth c D cA A H locs cells slots ad ad0 n0 lsc X
    obtain ⟨hC, ⟨hP, hD, hH⟩, hS, hB, hA0, hL, hok, hst⟩ := id X
    obtain ⟨hx, hb, hml, hr, hts, hown, hlk, hK, hAq, hnm, hNB⟩ := id hC
    rw [okS_cons, okS_cons] at hst
    refine lv_iadd hx hb hd ?_
    rw [i32_add]
    exact hn _ _ _ _ _ hop p l e s m args below meth c D cA A H locs cells slots ad ad0 n0 lsc (CXst X (okS_cons.mpr ⟨ok32_wr _, hst.2.2⟩))
  · exact hop.elim
def op_isub : Op := fun next _ _ bc bs ls st h => match st with
  | .inl b :: .inl a :: st => next bc bs ls (.inl (wr (a - b)) :: st) h
  | _ => False
theorem so_isub (hd : decode mi.2.1 pc = .ok (.isub, 1)) : SO S mi pc (pc + 1) tg op_isub := by
  intro next J Q bc bs ls st h hn hJ hop
  unfold op_isub at hop
  split at hop
  · rename_i b a st
    intro p l e s m args below meth c D cA A H locs cells slots ad ad0 n0 lsc X
    obtain ⟨hC, ⟨hP, hD, hH⟩, hS, hB, hA0, hL, hok, hst⟩ := id X
    obtain ⟨hx, hb, hml, hr, hts, hown, hlk, hK, hAq, hnm, hNB⟩ := id hC
    rw [okS_cons, okS_cons] at hst
    refine lv_isub hx hb hd ?_
    rw [i32_sub]
    exact hn _ _ _ _ _ hop p l e s m args below meth c D cA A H locs cells slots ad ad0 n0 lsc (CXst X (okS_cons.mpr ⟨ok32_wr _, hst.2.2⟩))
  · exact hop.elim
def op_imul : Op := fun next _ _ bc bs ls st h => match st with
  | .inl b :: .inl a :: st => next bc bs ls (.inl (wr (a * b)) :: st) h
  | _ => False
theorem so_imul (hd : decode mi.2.1 pc = .ok (.imul, 1)) : SO S mi pc (pc + 1) tg op_imul := by
  intro next J Q bc bs ls st h hn hJ hop
  unfold op_imul at hop
  split at hop
  · rename_i b a st
    intro p l e s m args below meth c D cA A H locs cells slots ad ad0 n0 lsc X
    obtain ⟨hC, ⟨hP, hD, hH⟩, hS, hB, hA0, hL, hok, hst⟩ := id X
    obtain ⟨hx, hb, hml, hr, hts, hown, hlk, hK, hAq, hnm, hNB⟩ := id hC
    rw [okS_cons, okS_cons] at hst
    refine lv_imul hx hb hd ?_
    rw [i32_mul]
    exact hn _ _ _ _ _ hop p l e s m args below meth c D cA A H locs cells slots ad ad0 n0 lsc (CXst X (okS_cons.mpr ⟨ok32_wr _, hst.2.2⟩))
  · exact hop.elim
def op_iand : Op := fun next _ _ bc bs ls st h => match st with
  | .inl b :: .inl a :: st => next bc bs ls (.inl (iand a b) :: st) h
  | _ => False
theorem so_iand (hd : decode mi.2.1 pc = .ok (.iand, 1)) : SO S mi pc (pc + 1) tg op_iand := by
  intro next J Q bc bs ls st h hn hJ hop
  unfold op_iand at hop
  split at hop
  · rename_i b a st
    intro p l e s m args below meth c D cA A H locs cells slots ad ad0 n0 lsc X
    obtain ⟨hC, ⟨hP, hD, hH⟩, hS, hB, hA0, hL, hok, hst⟩ := id X
    obtain ⟨hx, hb, hml, hr, hts, hown, hlk, hK, hAq, hnm, hNB⟩ := id hC
    rw [okS_cons, okS_cons] at hst
    refine lv_iand hx hb hd ?_
    have e1 : Int32.ofInt (iand a b) = _ := o32_toInt _
    rw [← e1]
    exact hn _ _ _ _ _ hop p l e s m args below meth c D cA A H locs cells slots ad ad0 n0 lsc (CXst X (okS_cons.mpr ⟨ok32_toInt _, hst.2.2⟩))
  · exact hop.elim
def op_ior : Op := fun next _ _ bc bs ls st h => match st with
  | .inl b :: .inl a :: st => next bc bs ls (.inl (ior a b) :: st) h
  | _ => False
theorem so_ior (hd : decode mi.2.1 pc = .ok (.ior, 1)) : SO S mi pc (pc + 1) tg op_ior := by
  intro next J Q bc bs ls st h hn hJ hop
  unfold op_ior at hop
  split at hop
  · rename_i b a st
    intro p l e s m args below meth c D cA A H locs cells slots ad ad0 n0 lsc X
    obtain ⟨hC, ⟨hP, hD, hH⟩, hS, hB, hA0, hL, hok, hst⟩ := id X
    obtain ⟨hx, hb, hml, hr, hts, hown, hlk, hK, hAq, hnm, hNB⟩ := id hC
    rw [okS_cons, okS_cons] at hst
    refine lv_ior hx hb hd ?_
    have e1 : Int32.ofInt (ior a b) = _ := o32_toInt _
    rw [← e1]
    exact hn _ _ _ _ _ hop p l e s m args below meth c D cA A H locs cells slots ad ad0 n0 lsc (CXst X (okS_cons.mpr ⟨ok32_toInt _, hst.2.2⟩))
  · exact hop.elim
def op_ixor : Op := fun next _ _ bc bs ls st h => match st with
  | .inl b :: .inl a :: st => next bc bs ls (.inl (ixor a b) :: st) h
  | _ => False
theorem so_ixor (hd : decode mi.2.1 pc = .ok (.ixor, 1)) : SO S mi pc (pc + 1) tg op_ixor := by
  intro next J Q bc bs ls st h hn hJ hop
  unfold op_ixor at hop
  split at hop
  · rename_i b a st
    intro p l e s m args below meth c D cA A H locs cells slots ad ad0 n0 lsc X
    obtain ⟨hC, ⟨hP, hD, hH⟩, hS, hB, hA0, hL, hok, hst⟩ := id X
    obtain ⟨hx, hb, hml, hr, hts, hown, hlk, hK, hAq, hnm, hNB⟩ := id hC
    rw [okS_cons, okS_cons] at hst
    refine lv_ixor hx hb hd ?_
    have e1 : Int32.ofInt (ixor a b) = _ := o32_toInt _
    rw [← e1]
    exact hn _ _ _ _ _ hop p l e s m args below meth c D cA A H locs cells slots ad ad0 n0 lsc (CXst X (okS_cons.mpr ⟨ok32_toInt _, hst.2.2⟩))
  · exact hop.elim
def op_ishl : Op := fun next _ _ bc bs ls st h => match st with
  | .inl b :: .inl a :: st => next bc bs ls (.inl (ishl a b) :: st) h
  | _ => False
theorem so_ishl (hd : decode mi.2.1 pc = .ok (.ishl, 1)) : SO S mi pc (pc + 1) tg op_ishl := by
  intro next J Q bc bs ls st h hn hJ hop
  unfold op_ishl at hop
  split at hop
  · rename_i b a st
    intro p l e s m args below meth c D cA A H locs cells slots ad ad0 n0 lsc X
    obtain ⟨hC, ⟨hP, hD, hH⟩, hS, hB, hA0, hL, hok, hst⟩ := id X
    obtain ⟨hx, hb, hml, hr, hts, hown, hlk, hK, hAq, hnm, hNB⟩ := id hC
    rw [okS_cons, okS_cons] at hst
    refine lv_ishl hx hb hd ?_
    have e1 : Int32.ofInt (ishl a b) = _ := o32_toInt _
    rw [← e1]
    exact hn _ _ _ _ _ hop p l e s m args below meth c D cA A H locs cells slots ad ad0 n0 lsc (CXst X (okS_cons.mpr ⟨ok32_toInt _, hst.2.2⟩))
  · exact hop.elim
def op_ishr : Op := fun next _ _ bc bs ls st h => match st with
  | .inl b :: .inl a :: st => next bc bs ls (.inl (ishr a b) :: st) h
  | _ => False
theorem so_ishr (hd : decode mi.2.1 pc = .ok (.ishr, 1)) : SO S mi pc (pc + 1) tg op_ishr := by
  intro next J Q bc bs ls st h hn hJ hop
  unfold op_ishr at hop
  split at hop
  · rename_i b a st
    intro p l e s m args below meth c D cA A H locs cells slots ad ad0 n0 lsc X
    obtain ⟨hC, ⟨hP, hD, hH⟩, hS, hB, hA0, hL, hok, hst⟩ := id X
    obtain ⟨hx, hb, hml, hr, hts, hown, hlk, hK, hAq, hnm, hNB⟩ := id hC
    rw [okS_cons, okS_cons] at hst
    refine lv_ishr hx hb hd ?_
    have e1 : Int32.ofInt (ishr a b) = _ := o32_toInt _
    rw [← e1]
    exact hn _ _ _ _ _ hop p l e s m args below meth c D cA A H locs cells slots ad ad0 n0 lsc (CXst X (okS_cons.mpr ⟨ok32_toInt _, hst.2.2⟩))
  · exact hop.elim
def op_idiv : Op := fun next _ _ bc bs ls st h => match st with
  | .inl b :: .inl a :: st => b ≠ 0 ∧ next bc bs ls (.inl (wr (a.tdiv b)) :: st) h
  | _ => False
theorem so_idiv (hd : decode mi.2.1 pc = .ok (.idiv, 1)) : SO S mi pc (pc + 1) tg op_idiv := by
  intro next J Q bc bs ls st h hn hJ hop
  unfold op_idiv at hop
  split at hop
  · rename_i b a st
    obtain ⟨hz, hop⟩ := hop
    intro p l e s m args below meth c D cA A H locs cells slots ad ad0 n0 lsc X
    obtain ⟨hC, ⟨hP, hD, hH⟩, hS, hB, hA0, hL, hok, hst⟩ := id X
    obtain ⟨hx, hb, hml, hr, hts, hown, hlk, hK, hAq, hnm, hNB⟩ := id hC
    rw [okS_cons, okS_cons] at hst
    refine lv_idiv hx hb hd (fun q => hz ((i32_eq hst.1 ok32_0).mp (q.trans i32_zero.symm))) ?_
    rw [i32_div hst.2.1 hst.1]
    exact hn _ _ _ _ _ hop p l e s m args below meth c D cA A H locs cells slots ad ad0 n0 lsc (CXst X (okS_cons.mpr ⟨ok32_wr _, hst.2.2⟩))
  · exact hop.elim
def op_irem : Op := fun next _ _ bc bs ls st h => match st with
  | .inl b :: .inl a :: st => b ≠ 0 ∧ next bc bs ls (.inl (wr (a.tmod b)) :: st) h
  | _ => False
theorem so_irem (hd : decode mi.2.1 pc = .ok (.irem, 1)) : SO S mi pc (pc + 1) tg op_irem := by
  intro next J Q bc bs ls st h hn hJ hop
  unfold op_irem at hop
  split at hop
  · rename_i b a st
    obtain ⟨hz, hop⟩ := hop
    intro p l e s m args below meth c D cA A H locs cells slots ad ad0 n0 lsc X
    obtain ⟨hC, ⟨hP, hD, hH⟩, hS, hB, hA0, hL, hok, hst⟩ := id X
    obtain ⟨hx, hb, hml, hr, hts, hown, hlk, hK, hAq, hnm, hNB⟩ := id hC
    rw [okS_cons, okS_cons] at hst
    refine lv_irem hx hb hd (fun q => hz ((i32_eq hst.1 ok32_0).mp (q.trans i32_zero.symm))) ?_
    rw [i32_rem hst.2.1 hst.1]
    exact hn _ _ _ _ _ hop p l e s m args below meth c D cA A H locs cells slots ad ad0 n0 lsc (CXst X (okS_cons.mpr ⟨ok32_wr _, hst.2.2⟩))
  · exact hop.elim
def op_iushr : Op := fun next _ _ bc bs ls st h => match st with
  | .inl b :: .inl a :: st => next bc bs ls (.inl (iushr a b) :: st) h
  | _ => False
theorem so_iushr (hd : decode mi.2.1 pc = .ok (.iushr, 1)) : SO S mi pc (pc + 1) tg op_iushr := by
  intro next J Q bc bs ls st h hn hJ hop
  unfold op_iushr at hop
  split at hop
  · rename_i b a st
    intro p l e s m args below meth c D cA A H locs cells slots ad ad0 n0 lsc X
    obtain ⟨hC, ⟨hP, hD, hH⟩, hS, hB, hA0, hL, hok, hst⟩ := id X
    obtain ⟨hx, hb, hml, hr, hts, hown, hlk, hK, hAq, hnm, hNB⟩ := id hC
    rw [okS_cons, okS_cons] at hst
    refine lv_iushr (v := Int32.ofInt (iushr a b)) hx hb hd (o32_toInt _).symm ?_
    exact hn _ _ _ _ _ hop p l e s m args below meth c D cA A H locs cells slots ad ad0 n0 lsc (CXst X (okS_cons.mpr ⟨ok32_toInt _, hst.2.2⟩))
  · exact hop.elim
def op_ineg : Op := fun next _ _ bc bs ls st h => match st with
  | .inl a :: st => next bc bs ls (.inl (wr (-a)) :: st) h
  | _ => False
theorem so_ineg (hd : decode mi.2.1 pc = .ok (.ineg, 1)) : SO S mi pc (pc + 1) tg op_ineg := by
  intro next J Q bc bs ls st h hn hJ hop
  unfold op_ineg at hop
  split at hop
  · rename_i a st
    intro p l e s m args below meth c D cA A H locs cells slots ad ad0 n0 lsc X
    obtain ⟨hC, ⟨hP, hD, hH⟩, hS, hB, hA0, hL, hok, hst⟩ := id X
    obtain ⟨hx, hb, hml, hr, hts, hown, hlk, hK, hAq, hnm, hNB⟩ := id hC
    rw [okS_cons] at hst
    refine lv_ineg hx hb hd ?_
    rw [i32_neg]
    exact hn _ _ _ _ _ hop p l e s m args below meth c D cA A H locs cells slots ad ad0 n0 lsc (CXst X (okS_cons.mpr ⟨ok32_wr _, hst.2⟩))
  · exact hop.elim
def op_i2l : Op := fun next _ _ bc bs ls st h => match st with
  | .inl a :: st => next bc bs ls (.inr (.inl a) :: st) h
  | _ => False
theorem so_i2l (hd : decode mi.2.1 pc = .ok (.i2l, 1)) : SO S mi pc (pc + 1) tg op_i2l := by
  intro next J Q bc bs ls st h hn hJ hop
  unfold op_i2l at hop
  split at hop
  · rename_i a st
    intro p l e s m args below meth c D cA A H locs cells slots ad ad0 n0 lsc X
    obtain ⟨hC, ⟨hP, hD, hH⟩, hS, hB, hA0, hL, hok, hst⟩ := id X
    obtain ⟨hx, hb, hml, hr, hts, hown, hlk, hK, hAq, hnm, hNB⟩ := id hC
    rw [okS_cons] at hst
    refine lv_i2l hx hb hd (i32_i2l hst.1) ?_
    exact hn _ _ _ _ _ hop p l e s m args below meth c D cA A H locs cells slots ad ad0 n0 lsc (CXst X (okS_cons.mpr ⟨ok32_64 hst.1, hst.2⟩))
  · exact hop.elim
def op_l2i : Op := fun next _ _ bc bs ls st h => match st with
  | .inr (.inl a) :: st => next bc bs ls (.inl (wr a) :: st) h
  | _ => False
theorem so_l2i (hd : decode mi.2.1 pc = .ok (.l2i, 1)) : SO S mi pc (pc + 1) tg op_l2i := by
  intro next J Q bc bs ls st h hn hJ hop
  unfold op_l2i at hop
  split at hop
  · rename_i a st
    intro p l e s m args below meth c D cA A H locs cells slots ad ad0 n0 lsc X
    obtain ⟨hC, ⟨hP, hD, hH⟩, hS, hB, hA0, hL, hok, hst⟩ := id X
    obtain ⟨hx, hb, hml, hr, hts, hown, hlk, hK, hAq, hnm, hNB⟩ := id hC
    rw [okS_cons] at hst
    refine lv_l2i hx hb hd (i64_l2i hst.1) ?_
    exact hn _ _ _ _ _ hop p l e s m args below meth c D cA A H locs cells slots ad ad0 n0 lsc (CXst X (okS_cons.mpr ⟨ok32_wr _, hst.2⟩))
  · exact hop.elim
def i2c (a : Int) : Int := (((Int32.ofInt a).toUInt32 % 65536).toInt32).toInt
def op_i2c : Op := fun next _ _ bc bs ls st h => match st with
  | .inl a :: st => next bc bs ls (.inl (i2c a) :: st) h
  | _ => False
theorem so_i2c (hd : decode mi.2.1 pc = .ok (.i2c, 1)) : SO S mi pc (pc + 1) tg op_i2c := by
  intro next J Q bc bs ls st h hn hJ hop
  unfold op_i2c at hop
  split at hop
  · rename_i a st
    intro p l e s m args below meth c D cA A H locs cells slots ad ad0 n0 lsc X
    obtain ⟨hC, ⟨hP, hD, hH⟩, hS, hB, hA0, hL, hok, hst⟩ := id X
    obtain ⟨hx, hb, hml, hr, hts, hown, hlk, hK, hAq, hnm, hNB⟩ := id hC
    rw [okS_cons] at hst
    refine lv_i2c (v := Int32.ofInt (i2c a)) hx hb hd (o32_toInt _).symm ?_
    exact hn _ _ _ _ _ hop p l e s m args below meth c D cA A H locs cells slots ad ad0 n0 lsc (CXst X (okS_cons.mpr ⟨ok32_toInt _, hst.2⟩))
  · exact hop.elim
def op_ladd : Op := fun next _ _ bc bs ls st h => match st with
  | .inr (.inl b) :: .inr (.inl a) :: st => next bc bs ls (.inr (.inl (wl (a + b))) :: st) h
  | _ => False
theorem so_ladd (hd : decode mi.2.1 pc = .ok (.ladd, 1)) : SO S mi pc (pc + 1) tg op_ladd := by
  intro next J Q bc bs ls st h hn hJ hop
  unfold op_ladd at hop
  split at hop
  · rename_i b a st
    intro p l e s m args below meth c D cA A H locs cells slots ad ad0 n0 lsc X
    obtain ⟨hC, ⟨hP, hD, hH⟩, hS, hB, hA0, hL, hok, hst⟩ := id X
    obtain ⟨hx, hb, hml, hr, hts, hown, hlk, hK, hAq, hnm, hNB⟩ := id hC
    rw [okS_cons, okS_cons] at hst
    refine lv_ladd hx hb hd ?_
    rw [i64_add]
    exact hn _ _ _ _ _ hop p l e s m args below meth c D cA A H locs cells slots ad ad0 n0 lsc (CXst X (okS_cons.mpr ⟨ok64_wl _, hst.2.2⟩))
  · exact hop.elim
def op_lsub : Op := fun next _ _ bc bs ls st h => match st with
  | .inr (.inl b) :: .inr (.inl a) :: st => next bc bs ls (.inr (.inl (wl (a - b))) :: st) h
  | _ => False
theorem so_lsub (hd : decode mi.2.1 pc = .ok (.lsub, 1)) : SO S mi pc (pc + 1) tg op_lsub := by
  intro next J Q bc bs ls st h hn hJ hop
  unfold op_lsub at hop
  split at hop
  · rename_i b a st
    intro p l e s m args below meth c D cA A H locs cells slots ad ad0 n0 lsc X
    obtain ⟨hC, ⟨hP, hD, hH⟩, hS, hB, hA0, hL, hok, hst⟩ := id X
    obtain ⟨hx, hb, hml, hr, hts, hown, hlk, hK, hAq, hnm, hNB⟩ := id hC
    rw [okS_cons, okS_cons] at hst
    refine lv_lsub hx hb hd ?_
    rw [i64_sub]
    exact hn _ _ _ _ _ hop p l e s m args below meth c D cA A H locs cells slots ad ad0 n0 lsc (CXst X (okS_cons.mpr ⟨ok64_wl _, hst.2.2⟩))
  · exact hop.elim
def op_lmul : Op := fun next _ _ bc bs ls st h => match st with
  | .inr (.inl b) :: .inr (.inl a) :: st => next bc bs ls (.inr (.inl (wl (a * b))) :: st) h
  | _ => False
theorem so_lmul (hd : decode mi.2.1 pc = .ok (.lmul, 1)) : SO S mi pc (pc + 1) tg op_lmul := by
  intro next J Q bc bs ls st h hn hJ hop
  unfold op_lmul at hop
  split at hop
  · rename_i b a st
    intro p l e s m args below meth c D cA A H locs cells slots ad ad0 n0 lsc X
    obtain ⟨hC, ⟨hP, hD, hH⟩, hS, hB, hA0, hL, hok, hst⟩ := id X
    obtain ⟨hx, hb, hml, hr, hts, hown, hlk, hK, hAq, hnm, hNB⟩ := id hC
    rw [okS_cons, okS_cons] at hst
    refine lv_lmul hx hb hd ?_
    rw [i64_mul]
    exact hn _ _ _ _ _ hop p l e s m args below meth c D cA A H locs cells slots ad ad0 n0 lsc (CXst X (okS_cons.mpr ⟨ok64_wl _, hst.2.2⟩))
  · exact hop.elim
def op_ldiv : Op := fun next _ _ bc bs ls st h => match st with
  | .inr (.inl b) :: .inr (.inl a) :: st => b ≠ 0 ∧ next bc bs ls (.inr (.inl (wl (a.tdiv b))) :: st) h
  | _ => False
theorem so_ldiv (hd : decode mi.2.1 pc = .ok (.ldiv, 1)) : SO S mi pc (pc + 1) tg op_ldiv := by
  intro next J Q bc bs ls st h hn hJ hop
  unfold op_ldiv at hop
  split at hop
  · rename_i b a st
    obtain ⟨hz, hop⟩ := hop
    intro p l e s m args below meth c D cA A H locs cells slots ad ad0 n0 lsc X
    obtain ⟨hC, ⟨hP, hD, hH⟩, hS, hB, hA0, hL, hok, hst⟩ := id X
    obtain ⟨hx, hb, hml, hr, hts, hown, hlk, hK, hAq, hnm, hNB⟩ := id hC
    rw [okS_cons, okS_cons] at hst
    refine lv_ldiv hx hb hd (fun q => hz ((i64_eq hst.1 ok64_0).mp (q.trans (by decide)))) ?_
    rw [i64_div hst.2.1 hst.1]
    exact hn _ _ _ _ _ hop p l e s m args below meth c D cA A H locs cells slots ad ad0 n0 lsc (CXst X (okS_cons.mpr ⟨ok64_wl _, hst.2.2⟩))
  · exact hop.elim
def op_lrem : Op := fun next _ _ bc bs ls st h => match st with
  | .inr (.inl b) :: .inr (.inl a) :: st => b ≠ 0 ∧ next bc bs ls (.inr (.inl (wl (a.tmod b))) :: st) h
  | _ => False
theorem so_lrem (hd : decode mi.2.1 pc = .ok (.lrem, 1)) : SO S mi pc (pc + 1) tg op_lrem := by
  intro next J Q bc bs ls st h hn hJ hop
  unfold op_lrem at hop
  split at hop
  · rename_i b a st
    obtain ⟨hz, hop⟩ := hop
    intro p l e s m args below meth c D cA A H locs cells slots ad ad0 n0 lsc X
    obtain ⟨hC, ⟨hP, hD, hH⟩, hS, hB, hA0, hL, hok, hst⟩ := id X
    obtain ⟨hx, hb, hml, hr, hts, hown, hlk, hK, hAq, hnm, hNB⟩ := id hC
    rw [okS_cons, okS_cons] at hst
    refine lv_lrem hx hb hd (fun q => hz ((i64_eq hst.1 ok64_0).mp (q.trans (by decide)))) ?_
    rw [i64_rem hst.2.1 hst.1]
    exact hn _ _ _ _ _ hop p l e s m args below meth c D cA A H locs cells slots ad ad0 n0 lsc (CXst X (okS_cons.mpr ⟨ok64_wl _, hst.2.2⟩))
  · exact hop.elim
def lcm3 (a b : Int) : Int := if b < a then 1 else if a = b then 0 else -1
theorem ok32_lcm3 (a b : Int) : ok32 (lcm3 a b) := by
  unfold lcm3 ok32
  split
  · omega
  · split <;> omega
def op_lcmp : Op := fun next _ _ bc bs ls st h => match st with
  | .inr (.inl b) :: .inr (.inl a) :: st => next bc bs ls (.inl (lcm3 a b) :: st) h
  | _ => False
theorem so_lcmp (hd : decode mi.2.1 pc = .ok (.lcmp, 1)) : SO S mi pc (pc + 1) tg op_lcmp := by
  intro next J Q bc bs ls st h hn hJ hop
  unfold op_lcmp at hop
  split at hop
  · rename_i b a st
    intro p l e s m args below meth c D cA A H locs cells slots ad ad0 n0 lsc X
    obtain ⟨hC, ⟨hP, hD, hH⟩, hS, hB, hA0, hL, hok, hst⟩ := id X
    obtain ⟨hx, hb, hml, hr, hts, hown, hlk, hK, hAq, hnm, hNB⟩ := id hC
    rw [okS_cons, okS_cons] at hst
    refine W.lcmp hx hb hd ?_
    have e1 : lg_cmp (Int64.ofInt a) (Int64.ofInt b) = Int32.ofInt (lcm3 a b) := by
      unfold lg_cmp lcm3
      simp only [gt_iff_lt, i64_lt hst.1 hst.2.1, i64_eq hst.2.1 hst.1]
      split
      · rfl
      · split <;> rfl
    rw [e1]
    exact hn _ _ _ _ _ hop p l e s m args below meth c D cA A H locs cells slots ad ad0 n0 lsc (CXst X (okS_cons.mpr ⟨ok32_lcm3 a b, hst.2.2⟩))
  · exact hop.elim
def c1 : AV → Prop
  | .inl _ => True
  | .inr (.inl _) => False
  | .inr (.inr _) => True
theorem c1_cat {ad : Nat → Nat} {v : AV} (h : c1 v) : (cv ad v).category = 1 := by
  rcases v with x | x | x
  · rfl
  · exact h.elim
  · simp only [cv, rv]; split <;> rfl
def op_dup : Op := fun next _ _ bc bs ls st h => match st with
  | v :: st => c1 v ∧ next bc bs ls (v :: v :: st) h
  | _ => False
theorem so_dup (hd : decode mi.2.1 pc = .ok (.dup, 1)) : SO S mi pc (pc + 1) tg op_dup := by
  intro next J Q bc bs ls st h hn hJ hop
  unfold op_dup at hop
  split at hop
  · rename_i v st
    obtain ⟨h1, hop⟩ := hop
    intro p l e s m args below meth c D cA A H locs cells slots ad ad0 n0 lsc X
    obtain ⟨hC, ⟨hP, hD, hH⟩, hS, hB, hA0, hL, hok, hst⟩ := id X
    obtain ⟨hx, hb, hml, hr, hts, hown, hlk, hK, hAq, hnm, hNB⟩ := id hC
    rw [okS_cons] at hst
    refine lv_dup hx hb hd (c1_cat h1) ?_
    exact hn _ _ _ _ _ hop p l e s m args below meth c D cA A H locs cells slots ad ad0 n0 lsc (CXst X (okS_cons.mpr ⟨hst.1, okS_cons.mpr hst⟩))
  · exact hop.elim
def op_pop : Op := fun next _ _ bc bs ls st h => match st with
  | v :: st => c1 v ∧ next bc bs ls st h
  | _ => False
theorem so_pop (hd : decode mi.2.1 pc = .ok (.pop, 1)) : SO S mi pc (pc + 1) tg op_pop := by
  intro next J Q bc bs ls st h hn hJ hop
  unfold op_pop at hop
  split at hop
  · rename_i v st
    obtain ⟨h1, hop⟩ := hop
    intro p l e s m args below meth c D cA A H locs cells slots ad ad0 n0 lsc X
    obtain ⟨hC, ⟨hP, hD, hH⟩, hS, hB, hA0, hL, hok, hst⟩ := id X
    obtain ⟨hx, hb, hml, hr, hts, hown, hlk, hK, hAq, hnm, hNB⟩ := id hC
    rw [okS_cons] at hst
    refine lv_pop hx hb hd (c1_cat h1) ?_
    exact hn _ _ _ _ _ hop p l e s m args below meth c D cA A H locs cells slots ad ad0 n0 lsc (CXst X hst.2)
  · exact hop.elim
def op_dup2 : Op := fun next _ _ bc bs ls st h => match st with
  | v :: w :: st => c1 v ∧ c1 w ∧ next bc bs ls (v :: w :: v :: w :: st) h
  | _ => False
theorem so_dup2 (hd : decode mi.2.1 pc = .ok (.dup2, 1)) : SO S mi pc (pc + 1) tg op_dup2 := by
  intro next J Q bc bs ls st h hn hJ hop
  unfold op_dup2 at hop
  split at hop
  · rename_i v w st
    obtain ⟨h1, h2, hop⟩ := hop
    intro p l e s m args below meth c D cA A H locs cells slots ad ad0 n0 lsc X
    obtain ⟨hC, ⟨hP, hD, hH⟩, hS, hB, hA0, hL, hok, hst⟩ := id X
    obtain ⟨hx, hb, hml, hr, hts, hown, hlk, hK, hAq, hnm, hNB⟩ := id hC
    rw [okS_cons, okS_cons] at hst
    refine lv_dup2_11 hx hb hd (c1_cat h1) (c1_cat h2) ?_
    exact hn _ _ _ _ _ hop p l e s m args below meth c D cA A H locs cells slots ad ad0 n0 lsc (CXst X (okS_cons.mpr ⟨hst.1, okS_cons.mpr ⟨hst.2.1, okS_cons.mpr ⟨hst.1, okS_cons.mpr hst.2⟩⟩⟩))
  · exact hop.elim
def op_ifeq (t : Nat) : Op := fun next J _ bc bs ls st h => match st with
  | .inl x :: st => (x = 0 → J t bc bs ls st h) ∧ (¬ (x = 0) → next bc bs ls st h)
  | _ => False
theorem so_ifeq {t : Nat} {off : Int} (hd : decode mi.2.1 pc = .ok (.ifCond .eq off, 3)) (ht : (pc : Int) + off = (tg t : Int)) : SO S mi pc (pc + 3) tg (op_ifeq t) := by
  intro next J Q bc bs ls st h hn hJ hop
  unfold op_ifeq at hop
  split at hop
  · rename_i x st
    obtain ⟨hop1, hop2⟩ := hop
    intro p l e s m args below meth c D cA A H locs cells slots ad ad0 n0 lsc X
    obtain ⟨hC, ⟨hP, hD, hH⟩, hS, hB, hA0, hL, hok, hst⟩ := id X
    obtain ⟨hx, hb, hml, hr, hts, hown, hlk, hK, hAq, hnm, hNB⟩ := id hC
    rw [okS_cons] at hst
    have e0 := i32_eq hst.1 ok32_0
    have e1 := i32_lt hst.1 ok32_0
    have e2 := i32_lt ok32_0 hst.1
    have e3 := i32_le hst.1 ok32_0
    have e4 := i32_le ok32_0 hst.1
    rw [i32_zero] at e0 e1 e2 e3 e4
    refine lv_if_eq hx hb hd ht (fun q => ?_) (fun q => ?_)
    · exact hJ _ _ _ _ _ _ (hop1 (by first | exact e0.mp q | exact e1.mp q | exact e2.mp q | exact e3.mp q | exact e4.mp q | exact fun z => q (e0.mpr z))) p l e s m args below meth c D cA A H locs cells slots ad ad0 n0 lsc (CXst X hst.2)
    · exact hn _ _ _ _ _ (hop2 (by first | exact fun z => q (e0.mpr z) | exact fun z => q (e1.mpr z) | exact fun z => q (e2.mpr z) | exact fun z => q (e3.mpr z) | exact fun z => q (e4.mpr z) | exact fun z => z (e0.mp q))) p l e s m args below meth c D cA A H locs cells slots ad ad0 n0 lsc (CXst X hst.2)
  · exact hop.elim
def op_iceq (t : Nat) : Op := fun next J _ bc bs ls st h => match st with
  | .inl b :: .inl a :: st => (a = b → J t bc bs ls st h) ∧ (¬ (a = b) → next bc bs ls st h)
  | _ => False
theorem so_iceq {t : Nat} {off : Int} (hd : decode mi.2.1 pc = .ok (.if_icmp .eq off, 3)) (ht : (pc : Int) + off = (tg t : Int)) : SO S mi pc (pc + 3) tg (op_iceq t) := by
  intro next J Q bc bs ls st h hn hJ hop
  unfold op_iceq at hop
  split at hop
  · rename_i b a st
    obtain ⟨hop1, hop2⟩ := hop
    intro p l e s m args below meth c D cA A H locs cells slots ad ad0 n0 lsc X
    obtain ⟨hC, ⟨hP, hD, hH⟩, hS, hB, hA0, hL, hok, hst⟩ := id X
    obtain ⟨hx, hb, hml, hr, hts, hown, hlk, hK, hAq, hnm, hNB⟩ := id hC
    rw [okS_cons, okS_cons] at hst
    have e0 := i32_eq hst.2.1 hst.1
    have e1 := i32_lt hst.2.1 hst.1
    have e2 := i32_lt hst.1 hst.2.1
    have e3 := i32_le hst.2.1 hst.1
    have e4 := i32_le hst.1 hst.2.1
    refine lv_icmp_eq hx hb hd ht (fun q => ?_) (fun q => ?_)
    · exact hJ _ _ _ _ _ _ (hop1 (by first | exact e0.mp q | exact e1.mp q | exact e2.mp q | exact e3.mp q | exact e4.mp q | exact fun z => q (e0.mpr z))) p l e s m args below meth c D cA A H locs cells slots ad ad0 n0 lsc (CXst X hst.2.2)
    · exact hn _ _ _ _ _ (hop2 (by first | exact fun z => q (e0.mpr z) | exact fun z => q (e1.mpr z) | exact fun z => q (e2.mpr z) | exact fun z => q (e3.mpr z) | exact fun z => q (e4.mpr z) | exact fun z => z (e0.mp q))) p l e s m args below meth c D cA A H locs cells slots ad ad0 n0 lsc (CXst X hst.2.2)
  · exact hop.elim
def op_ifne (t : Nat) : Op := fun next J _ bc bs ls st h => match st with
  | .inl x :: st => (¬ x = 0 → J t bc bs ls st h) ∧ (¬ (¬ x = 0) → next bc bs ls st h)
  | _ => False
theorem so_ifne {t : Nat} {off : Int} (hd : decode mi.2.1 pc = .ok (.ifCond .ne off, 3)) (ht : (pc : Int) + off = (tg t : Int)) : SO S mi pc (pc + 3) tg (op_ifne t) := by
  intro next J Q bc bs ls st h hn hJ hop
  unfold op_ifne at hop
  split at hop
  · rename_i x st
    obtain ⟨hop1, hop2⟩ := hop
    intro p l e s m args below meth c D cA A H locs cells slots ad ad0 n0 lsc X
    obtain ⟨hC, ⟨hP, hD, hH⟩, hS, hB, hA0, hL, hok, hst⟩ := id X
    obtain ⟨hx, hb, hml, hr, hts, hown, hlk, hK, hAq, hnm, hNB⟩ := id hC
    rw [okS_cons] at hst
    have e0 := i32_eq hst.1 ok32_0
    have e1 := i32_lt hst.1 ok32_0
    have e2 := i32_lt ok32_0 hst.1
    have e3 := i32_le hst.1 ok32_0
    have e4 := i32_le ok32_0 hst.1
    rw [i32_zero] at e0 e1 e2 e3 e4
    refine lv_if_ne hx hb hd ht (fun q => ?_) (fun q => ?_)
    · exact hJ _ _ _ _ _ _ (hop1 (by first | exact e0.mp q | exact e1.mp q | exact e2.mp q | exact e3.mp q | exact e4.mp q | exact fun z => q (e0.mpr z))) p l e s m args below meth c D cA A H locs cells slots ad ad0 n0 lsc (CXst X hst.2)
    · exact hn _ _ _ _ _ (hop2 (by first | exact fun z => q (e0.mpr z) | exact fun z => q (e1.mpr z) | exact fun z => q (e2.mpr z) | exact fun z => q (e3.mpr z) | exact fun z => q (e4.mpr z) | exact fun z => z (e0.mp q))) p l e s m args below meth c D cA A H locs cells slots ad ad0 n0 lsc (CXst X hst.2)
  · exact hop.elim
def op_icne (t : Nat) : Op := fun next J _ bc bs ls st h => match st with
  | .inl b :: .inl a :: st => (¬ a = b → J t bc bs ls st h) ∧ (¬ (¬ a = b) → next bc bs ls st h)
  | _ => False
theorem so_icne {t : Nat} {off : Int} (hd : decode mi.2.1 pc = .ok (.if_icmp .ne off, 3)) (ht : (pc : Int) + off = (tg t : Int)) : SO S mi pc (pc + 3) tg (op_icne t) := by
  intro next J Q bc bs ls st h hn hJ hop
  unfold op_icne at hop
  split at hop
  · rename_i b a st
    obtain ⟨hop1, hop2⟩ := hop
    intro p l e s m args below meth c D cA A H locs cells slots ad ad0 n0 lsc X
    obtain ⟨hC, ⟨hP, hD, hH⟩, hS, hB, hA0, hL, hok, hst⟩ := id X
    obtain ⟨hx, hb, hml, hr, hts, hown, hlk, hK, hAq, hnm, hNB⟩ := id hC
    rw [okS_cons, okS_cons] at hst
    have e0 := i32_eq hst.2.1 hst.1
    have e1 := i32_lt hst.2.1 hst.1
    have e2 := i32_lt hst.1 hst.2.1
    have e3 := i32_le hst.2.1 hst.1
    have e4 := i32_le hst.1 hst.2.1
    refine lv_icmp_ne hx hb hd ht (fun q => ?_) (fun q => ?_)
    · exact hJ _ _ _ _ _ _ (hop1 (by first | exact e0.mp q | exact e1.mp q | exact e2.mp q | exact e3.mp q | exact e4.mp q | exact fun z => q (e0.mpr z))) p l e s m args below meth c D cA A H locs cells slots ad ad0 n0 lsc (CXst X hst.2.2)
    · exact hn _ _ _ _ _ (hop2 (by first | exact fun z => q (e0.mpr z) | exact fun z => q (e1.mpr z) | exact fun z => q (e2.mpr z) | exact fun z => q (e3.mpr z) | exact fun z => q (e4.mpr z) | exact fun z => z (e0.mp q))) p l e s m args below meth c D cA A H locs cells slots ad ad0 n0 lsc (CXst X hst.2.2)
  · exact hop.elim
def op_iflt (t : Nat) : Op := fun next J _ bc bs ls st h => match st with
  | .inl x :: st => (x < 0 → J t bc bs ls st h) ∧ (¬ (x < 0) → next bc bs ls st h)
  | _ => False
theorem so_iflt {t : Nat} {off : Int} (hd : decode mi.2.1 pc = .ok (.ifCond .lt off, 3)) (ht : (pc : Int) + off = (tg t : Int)) : SO S mi pc (pc + 3) tg (op_iflt t) := by
  intro next J Q bc bs ls st h hn hJ hop
  unfold op_iflt at hop
  split at hop
  · rename_i x st
    obtain ⟨hop1, hop2⟩ := hop
    intro p l e s m args below meth c D cA A H locs cells slots ad ad0 n0 lsc X
    obtain ⟨hC, ⟨hP, hD, hH⟩, hS, hB, hA0, hL, hok, hst⟩ := id X
    obtain ⟨hx, hb, hml, hr, hts, hown, hlk, hK, hAq, hnm, hNB⟩ := id hC
    rw [okS_cons] at hst
    have e0 := i32_eq hst.1 ok32_0
    have e1 := i32_lt hst.1 ok32_0
    have e2 := i32_lt ok32_0 hst.1
    have e3 := i32_le hst.1 ok32_0
    have e4 := i32_le ok32_0 hst.1
    rw [i32_zero] at e0 e1 e2 e3 e4
    refine lv_if_lt hx hb hd ht (fun q => ?_) (fun q => ?_)
    · exact hJ _ _ _ _ _ _ (hop1 (by first | exact e0.mp q | exact e1.mp q | exact e2.mp q | exact e3.mp q | exact e4.mp q | exact fun z => q (e0.mpr z))) p l e s m args below meth c D cA A H locs cells slots ad ad0 n0 lsc (CXst X hst.2)
    · exact hn _ _ _ _ _ (hop2 (by first | exact fun z => q (e0.mpr z) | exact fun z => q (e1.mpr z) | exact fun z => q (e2.mpr z) | exact fun z => q (e3.mpr z) | exact fun z => q (e4.mpr z) | exact fun z => z (e0.mp q))) p l e s m args below meth c D cA A H locs cells slots ad ad0 n0 lsc (CXst X hst.2)
  · exact hop.elim
def op_iclt (t : Nat) : Op := fun next J _ bc bs ls st h => match st with
  | .inl b :: .inl a :: st => (a < b → J t bc bs ls st h) ∧ (¬ (a < b) → next bc bs ls st h)
  | _ => False
theorem so_iclt {t : Nat} {off : Int} (hd : decode mi.2.1 pc = .ok (.if_icmp .lt off, 3)) (ht : (pc : Int) + off = (tg t : Int)) : SO S mi pc (pc + 3) tg (op_iclt t) := by
  intro next J Q bc bs ls st h hn hJ hop
  unfold op_iclt at hop
  split at hop
  · rename_i b a st
    obtain ⟨hop1, hop2⟩ := hop
    intro p l e s m args below meth c D cA A H locs cells slots ad ad0 n0 lsc X
    obtain ⟨hC, ⟨hP, hD, hH⟩, hS, hB, hA0, hL, hok, hst⟩ := id X
    obtain ⟨hx, hb, hml, hr, hts, hown, hlk, hK, hAq, hnm, hNB⟩ := id hC
    rw [okS_cons, okS_cons] at hst
    have e0 := i32_eq hst.2.1 hst.1
    have e1 := i32_lt hst.2.1 hst.1
    have e2 := i32_lt hst.1 hst.2.1
    have e3 := i32_le hst.2.1 hst.1
    have e4 := i32_le hst.1 hst.2.1
    refine lv_icmp_lt hx hb hd ht (fun q => ?_) (fun q => ?_)
    · exact hJ _ _ _ _ _ _ (hop1 (by first | exact e0.mp q | exact e1.mp q | exact e2.mp q | exact e3.mp q | exact e4.mp q | exact fun z => q (e0.mpr z))) p l e s m args below meth c D cA A H locs cells slots ad ad0 n0 lsc (CXst X hst.2.2)
    · exact hn _ _ _ _ _ (hop2 (by first | exact fun z => q (e0.mpr z) | exact fun z => q (e1.mpr z) | exact fun z => q (e2.mpr z) | exact fun z => q (e3.mpr z) | exact fun z => q (e4.mpr z) | exact fun z => z (e0.mp q))) p l e s m args below meth c D cA A H locs cells slots ad ad0 n0 lsc (CXst X hst.2.2)
  · exact hop.elim
def op_ifge (t : Nat) : Op := fun next J _ bc bs ls st h => match st with
  | .inl x :: st => (0 ≤ x → J t bc bs ls st h) ∧ (¬ (0 ≤ x) → next bc bs ls st h)
  | _ => False
theorem so_ifge {t : Nat} {off : Int} (hd : decode mi.2.1 pc = .ok (.ifCond .ge off, 3)) (ht : (pc : Int) + off = (tg t : Int)) : SO S mi pc (pc + 3) tg (op_ifge t) := by
  intro next J Q bc bs ls st h hn hJ hop
  unfold op_ifge at hop
  split at hop
  · rename_i x st
    obtain ⟨hop1, hop2⟩ := hop
    intro p l e s m args below meth c D cA A H locs cells slots ad ad0 n0 lsc X
    obtain ⟨hC, ⟨hP, hD, hH⟩, hS, hB, hA0, hL, hok, hst⟩ := id X
    obtain ⟨hx, hb, hml, hr, hts, hown, hlk, hK, hAq, hnm, hNB⟩ := id hC
    rw [okS_cons] at hst
    have e0 := i32_eq hst.1 ok32_0
    have e1 := i32_lt hst.1 ok32_0
    have e2 := i32_lt ok32_0 hst.1
    have e3 := i32_le hst.1 ok32_0
    have e4 := i32_le ok32_0 hst.1
    rw [i32_zero] at e0 e1 e2 e3 e4
    refine lv_if_ge hx hb hd ht (fun q => ?_) (fun q => ?_)
    · exact hJ _ _ _ _ _ _ (hop1 (by first | exact e0.mp q | exact e1.mp q | exact e2.mp q | exact e3.mp q | exact e4.mp q | exact fun z => q (e0.mpr z))) p l e s m args below meth c D cA A H locs cells slots ad ad0 n0 lsc (CXst X hst.2)
    · exact hn _ _ _ _ _ (hop2 (by first | exact fun z => q (e0.mpr z) | exact fun z => q (e1.mpr z) | exact fun z => q (e2.mpr z) | exact fun z => q (e3.mpr z) | exact fun z => q (e4.mpr z) | exact fun z => z (e0.mp q))) p l e s m args below meth c D cA A H locs cells slots ad ad0 n0 lsc (CXst X hst.2)
  · exact hop.elim
def op_icge (t : Nat) : Op := fun next J _ bc bs ls st h => match st with
  | .inl b :: .inl a :: st => (b ≤ a → J t bc bs ls st h) ∧ (¬ (b ≤ a) → next bc bs ls st h)
  | _ => False
theorem so_icge {t : Nat} {off : Int} (hd : decode mi.2.1 pc = .ok (.if_icmp .ge off, 3)) (ht : (pc : Int) + off = (tg t : Int)) : SO S mi pc (pc + 3) tg (op_icge t) := by
  intro next J Q bc bs ls st h hn hJ hop
  unfold op_icge at hop
  split at hop
  · rename_i b a st
    obtain ⟨hop1, hop2⟩ := hop
    intro p l e s m args below meth c D cA A H locs cells slots ad ad0 n0 lsc X
    obtain ⟨hC, ⟨hP, hD, hH⟩, hS, hB, hA0, hL, hok, hst⟩ := id X
    obtain ⟨hx, hb, hml, hr, hts, hown, hlk, hK, hAq, hnm, hNB⟩ := id hC
    rw [okS_cons, okS_cons] at hst
    have e0 := i32_eq hst.2.1 hst.1
    have e1 := i32_lt hst.2.1 hst.1
    have e2 := i32_lt hst.1 hst.2.1
    have e3 := i32_le hst.2.1 hst.1
    have e4 := i32_le hst.1 hst.2.1
    refine lv_icmp_ge hx hb hd ht (fun q => ?_) (fun q => ?_)
    · exact hJ _ _ _ _ _ _ (hop1 (by first | exact e0.mp q | exact e1.mp q | exact e2.mp q | exact e3.mp q | exact e4.mp q | exact fun z => q (e0.mpr z))) p l e s m args below meth c D cA A H locs cells slots ad ad0 n0 lsc (CXst X hst.2.2)
    · exact hn _ _ _ _ _ (hop2 (by first | exact fun z => q (e0.mpr z) | exact fun z => q (e1.mpr z) | exact fun z => q (e2.mpr z) | exact fun z => q (e3.mpr z) | exact fun z => q (e4.mpr z) | exact fun z => z (e0.mp q))) p l e s m args below meth c D cA A H locs cells slots ad ad0 n0 lsc (CXst X hst.2.2)
  · exact hop.elim
def op_ifgt (t : Nat) : Op := fun next J _ bc bs ls st h => match st with
  | .inl x :: st => (0 < x → J t bc bs ls st h) ∧ (¬ (0 < x) → next bc bs ls st h)
  | _ => False
theorem so_ifgt {t : Nat} {off : Int} (hd : decode mi.2.1 pc = .ok (.ifCond .gt off, 3)) (ht : (pc : Int) + off = (tg t : Int)) : SO S mi pc (pc + 3) tg (op_ifgt t) := by
  intro next J Q bc bs ls st h hn hJ hop
  unfold op_ifgt at hop
  split at hop
  · rename_i x st
    obtain ⟨hop1, hop2⟩ := hop
    intro p l e s m args below meth c D cA A H locs cells slots ad ad0 n0 lsc X
    obtain ⟨hC, ⟨hP, hD, hH⟩, hS, hB, hA0, hL, hok, hst⟩ := id X
    obtain ⟨hx, hb, hml, hr, hts, hown, hlk, hK, hAq, hnm, hNB⟩ := id hC
    rw [okS_cons] at hst
    have e0 := i32_eq hst.1 ok32_0
    have e1 := i32_lt hst.1 ok32_0
    have e2 := i32_lt ok32_0 hst.1
    have e3 := i32_le hst.1 ok32_0
    have e4 := i32_le ok32_0 hst.1
    rw [i32_zero] at e0 e1 e2 e3 e4
    refine lv_if_gt hx hb hd ht (fun q => ?_) (fun q => ?_)
    · exact hJ _ _ _ _ _ _ (hop1 (by first | exact e0.mp q | exact e1.mp q | exact e2.mp q | exact e3.mp q | exact e4.mp q | exact fun z => q (e0.mpr z))) p l e s m args below meth c D cA A H locs cells slots ad ad0 n0 lsc (CXst X hst.2)
    · exact hn _ _ _ _ _ (hop2 (by first | exact fun z => q (e0.mpr z) | exact fun z => q (e1.mpr z) | exact fun z => q (e2.mpr z) | exact fun z => q (e3.mpr z) | exact fun z => q (e4.mpr z) | exact fun z => z (e0.mp q))) p l e s m args below meth c D cA A H locs cells slots ad ad0 n0 lsc (CXst X hst.2)
  · exact hop.elim
def op_icgt (t : Nat) : Op := fun next J _ bc bs ls st h => match st with
  | .inl b :: .inl a :: st => (b < a → J t bc bs ls st h) ∧ (¬ (b < a) → next bc bs ls st h)
  | _ => False
theorem so_icgt {t : Nat} {off : Int} (hd : decode mi.2.1 pc = .ok (.if_icmp .gt off, 3)) (ht : (pc : Int) + off = (tg t : Int)) : SO S mi pc (pc + 3) tg (op_icgt t) := by
  intro next J Q bc bs ls st h hn hJ hop
  unfold op_icgt at hop
  split at hop
  · rename_i b a st
    obtain ⟨hop1, hop2⟩ := hop
    intro p l e s m args below meth c D cA A H locs cells slots ad ad0 n0 lsc X
    obtain ⟨hC, ⟨hP, hD, hH⟩, hS, hB, hA0, hL, hok, hst⟩ := id X
    obtain ⟨hx, hb, hml, hr, hts, hown, hlk, hK, hAq, hnm, hNB⟩ := id hC
    rw [okS_cons, okS_cons] at hst
    have e0 := i32_eq hst.2.1 hst.1
    have e1 := i32_lt hst.2.1 hst.1
    have e2 := i32_lt hst.1 hst.2.1
    have e3 := i32_le hst.2.1 hst.1
    have e4 := i32_le hst.1 hst.2.1
    refine lv_icmp_gt hx hb hd ht (fun q => ?_) (fun q => ?_)
    · exact hJ _ _ _ _ _ _ (hop1 (by first | exact e0.mp q | exact e1.mp q | exact e2.mp q | exact e3.mp q | exact e4.mp q | exact fun z => q (e0.mpr z))) p l e s m args below meth c D cA A H locs cells slots ad ad0 n0 lsc (CXst X hst.2.2)
    · exact hn _ _ _ _ _ (hop2 (by first | exact fun z => q (e0.mpr z) | exact fun z => q (e1.mpr z) | exact fun z => q (e2.mpr z) | exact fun z => q (e3.mpr z) | exact fun z => q (e4.mpr z) | exact fun z => z (e0.mp q))) p l e s m args below meth c D cA A H locs cells slots ad ad0 n0 lsc (CXst X hst.2.2)
  · exact hop.elim
def op_ifle (t : Nat) : Op := fun next J _ bc bs ls st h => match st with
  | .inl x :: st => (x ≤ 0 → J t bc bs ls st h) ∧ (¬ (x ≤ 0) → next bc bs ls st h)
  | _ => False
theorem so_ifle {t : Nat} {off : Int} (hd : decode mi.2.1 pc = .ok (.ifCond .le off, 3)) (ht : (pc : Int) + off = (tg t : Int)) : SO S mi pc (pc + 3) tg (op_ifle t) := by
  intro next J Q bc bs ls st h hn hJ hop
  unfold op_ifle at hop
  split at hop
  · rename_i x st
    obtain ⟨hop1, hop2⟩ := hop
    intro p l e s m args below meth c D cA A H locs cells slots ad ad0 n0 lsc X
    obtain ⟨hC, ⟨hP, hD, hH⟩, hS, hB, hA0, hL, hok, hst⟩ := id X
    obtain ⟨hx, hb, hml, hr, hts, hown, hlk, hK, hAq, hnm, hNB⟩ := id hC
    rw [okS_cons] at hst
    have e0 := i32_eq hst.1 ok32_0
    have e1 := i32_lt hst.1 ok32_0
    have e2 := i32_lt ok32_0 hst.1
    have e3 := i32_le hst.1 ok32_0
    have e4 := i32_le ok32_0 hst.1
    rw [i32_zero] at e0 e1 e2 e3 e4
    refine lv_if_le hx hb hd ht (fun q => ?_) (fun q => ?_)
    · exact hJ _ _ _ _ _ _ (hop1 (by first | exact e0.mp q | exact e1.mp q | exact e2.mp q | exact e3.mp q | exact e4.mp q | exact fun z => q (e0.mpr z))) p l e s m args below meth c D cA A H locs cells slots ad ad0 n0 lsc (CXst X hst.2)
    · exact hn _ _ _ _ _ (hop2 (by first | exact fun z => q (e0.mpr z) | exact fun z => q (e1.mpr z) | exact fun z => q (e2.mpr z) | exact fun z => q (e3.mpr z) | exact fun z => q (e4.mpr z) | exact fun z => z (e0.mp q))) p l e s m args below meth c D cA A H locs cells slots ad ad0 n0 lsc (CXst X hst.2)
  · exact hop.elim
def op_icle (t : Nat) : Op := fun next J _ bc bs ls st h => match st with
  | .inl b :: .inl a :: st => (a ≤ b → J t bc bs ls st h) ∧ (¬ (a ≤ b) → next bc bs ls st h)
  | _ => False
theorem so_icle {t : Nat} {off : Int} (hd : decode mi.2.1 pc = .ok (.if_icmp .le off, 3)) (ht : (pc : Int) + off = (tg t : Int)) : SO S mi pc (pc + 3) tg (op_icle t) := by
  intro next J Q bc bs ls st h hn hJ hop
  unfold op_icle at hop
  split at hop
  · rename_i b a st
    obtain ⟨hop1, hop2⟩ := hop
    intro p l e s m args below meth c D cA A H locs cells slots ad ad0 n0 lsc X
    obtain ⟨hC, ⟨hP, hD, hH⟩, hS, hB, hA0, hL, hok, hst⟩ := id X
    obtain ⟨hx, hb, hml, hr, hts, hown, hlk, hK, hAq, hnm, hNB⟩ := id hC
    rw [okS_cons, okS_cons] at hst
    have e0 := i32_eq hst.2.1 hst.1
    have e1 := i32_lt hst.2.1 hst.1
    have e2 := i32_lt hst.1 hst.2.1
    have e3 := i32_le hst.2.1 hst.1
    have e4 := i32_le hst.1 hst.2.1
    refine lv_icmp_le hx hb hd ht (fun q => ?_) (fun q => ?_)
    · exact hJ _ _ _ _ _ _ (hop1 (by first | exact e0.mp q | exact e1.mp q | exact e2.mp q | exact e3.mp q | exact e4.mp q | exact fun z => q (e0.mpr z))) p l e s m args below meth c D cA A H locs cells slots ad ad0 n0 lsc (CXst X hst.2.2)
    · exact hn _ _ _ _ _ (hop2 (by first | exact fun z => q (e0.mpr z) | exact fun z => q (e1.mpr z) | exact fun z => q (e2.mpr z) | exact fun z => q (e3.mpr z) | exact fun z => q (e4.mpr z) | exact fun z => z (e0.mp q))) p l e s m args below meth c D cA A H locs cells slots ad ad0 n0 lsc (CXst X hst.2.2)
  · exact hop.elim
def op_goto (t : Nat) : Op := fun _ J _ bc bs ls st h => J t bc bs ls st h
theorem so_goto {t pc' : Nat} {off : Int} (hd : decode mi.2.1 pc = .ok (.goto off, 3)) (ht : (pc : Int) + off = (tg t : Int)) : SO S mi pc pc' tg (op_goto t) := by
  intro next J Q bc bs ls st h hn hJ hop
  intro p l e s m args below meth c D cA A H locs cells slots ad ad0 n0 lsc X
  obtain ⟨hC, ⟨hP, hD, hH⟩, hS, hB, hA0, hL, hok, hst⟩ := id X
  obtain ⟨hx, hb, hml, hr, hts, hown, hlk, hK, hAq, hnm, hNB⟩ := id hC
  exact lv_goto hx hb hd ht (hJ _ _ _ _ _ _ hop p l e s m args below meth c D cA A H locs cells slots ad ad0 n0 lsc X)
theorem so_fall {t pc' : Nat} (ht : pc = tg t) : SO S mi pc pc' tg (op_goto t) := by
  intro next J Q bc bs ls st h hn hJ hop
  rw [ht]
  exact hJ _ _ _ _ _ _ hop
/-- a switch over k, k + 1 .. -/
def tbl (x : Int) (J : Nat → Prop) : Int → List Nat → Prop
  | _, [] => True
  | k, t :: ts => (x = k → J t) ∧ tbl x J (k + 1) ts
theorem tbl_at {x : Int} {J : Nat → Prop} {k : Int} {ts : List Nat} (h : tbl x J k ts) {i : Nat} {t : Nat} (hi : ts[i]? = some t) (hx : x = k + i) : J t := by
  induction ts generalizing k i with
  | nil => simp at hi
  | cons a ts ih =>
    cases i with
    | zero =>
      have : a = t := by simpa using hi
      subst this
      exact h.1 (by simpa using hx)
    | succ i => exact ih h.2 (i := i) (by simpa using hi) (by rw [hx]; omega)
def op_table (lo : Int) (ts : List Nat) (d : Nat) : Op := fun _ J _ bc bs ls st h => match st with
  | .inl x :: st => tbl x (fun t => J t bc bs ls st h) lo ts ∧ ((x < lo ∨ lo + ts.length ≤ x) → J d bc bs ls st h)
  | _ => False
theorem so_table {lo hi : Int} {ts : List Nat} {d pc' : Nat} {dflt : Int} {offs : Array Int} {len : Nat} (hd : decode mi.2.1 pc = .ok (.tableswitch dflt lo hi offs, len)) (hhi : hi = lo + ts.length - 1) (ho : ∀ i, i < ts.length → (i < offs.size ∧ (pc : Int) + offs.getD i 0 = (tg (ts.getD i 0) : Int))) (hdt : (pc : Int) + dflt = (tg d : Int)) : SO S mi pc pc' tg (op_table lo ts d) := by
  intro next J Q bc bs ls st h hn hJ hop
  unfold op_table at hop
  split at hop
  · rename_i x st
    obtain ⟨hop1, hop2⟩ := hop
    intro p l e s m args below meth c D cA A H locs cells slots ad ad0 n0 lsc X
    obtain ⟨hC, ⟨hP, hD, hH⟩, hS, hB, hA0, hL, hok, hst⟩ := id X
    obtain ⟨hx, hb, hml, hr, hts, hown, hlk, hK, hAq, hnm, hNB⟩ := id hC
    rw [okS_cons] at hst
    have ex : (Int32.ofInt x).toInt = x := t32 hst.1
    by_cases q : x < lo ∨ lo + ts.length ≤ x
    · refine lv_tableOut (tgt := tg d) hx hb hd (by rw [ex]; omega) hdt ?_
      exact hJ _ _ _ _ _ _ (hop2 q) p l e s m args below meth c D cA A H locs cells slots ad ad0 n0 lsc (CXst X hst.2)
    · obtain ⟨g0, g4⟩ := ho (x - lo).toNat (by omega)
      obtain ⟨t, g1⟩ : ∃ t, ts[(x - lo).toNat]? = some t := ⟨_, List.getElem?_eq_getElem (by omega)⟩
      obtain ⟨off, g2⟩ : ∃ off, offs[(x - lo).toNat]? = some off := ⟨_, Array.getElem?_eq_getElem g0⟩
      have g3 : (pc : Int) + off = (tg t : Int) := by
        rw [List.getD_eq_getElem?_getD, g1, Array.getD_eq_getD_getElem?, g2] at g4
        exact g4
      refine lv_tableIn (off := off) (tgt := tg t) hx hb hd (by rw [ex]; omega) (by rw [ex]; omega) (by rw [ex]; exact g2) g3 ?_
      exact hJ _ _ _ _ _ _ (tbl_at hop1 g1 (by omega)) p l e s m args below meth c D cA A H locs cells slots ad ad0 n0 lsc (CXst X hst.2)
  · exact hop.elim
def lkp (x : Int) (J : Nat → Prop) (d : Nat) : List (Int × Nat) → Prop
  | [] => J d
  | q :: r => (x = q.1 → J q.2) ∧ (¬ x = q.1 → lkp x J d r)
def lkt (x : Int) (d : Nat) : List (Int × Nat) → Nat
  | [] => d
  | q :: r => if x = q.1 then q.2 else lkt x d r
theorem lkp_at {x : Int} {J : Nat → Prop} {d : Nat} {r : List (Int × Nat)} (h : lkp x J d r) : J (lkt x d r) := by
  induction r with
  | nil => exact h
  | cons q r ih =>
    unfold lkt
    split
    · rename_i z; exact h.1 z
    · rename_i z; exact ih (h.2 z)
def op_look (r : List (Int × Nat)) (d : Nat) : Op := fun _ J _ bc bs ls st h => match st with
  | .inl x :: st => lkp x (fun t => J t bc bs ls st h) d r
  | _ => False
theorem so_look {r : List (Int × Nat)} {d pc' : Nat} {dflt : Int} {ps : Array (Int × Int)} {len : Nat} (hd : decode mi.2.1 pc = .ok (.lookupswitch dflt ps, len)) (hp : (ps.toList.zip (ps.toList.drop 1)).all (fun (a, next) => a.1 < next.1) = true) (ho : ∀ x : Int, (pc : Int) + Op.lookupswitch.offset ps.toList dflt x = (tg (lkt x d r) : Int)) : SO S mi pc pc' tg (op_look r d) := by
  intro next J Q bc bs ls st h hn hJ hop
  unfold op_look at hop
  split at hop
  · rename_i x st
    intro p l e s m args below meth c D cA A H locs cells slots ad ad0 n0 lsc X
    obtain ⟨hC, ⟨hP, hD, hH⟩, hS, hB, hA0, hL, hok, hst⟩ := id X
    obtain ⟨hx, hb, hml, hr, hts, hown, hlk, hK, hAq, hnm, hNB⟩ := id hC
    rw [okS_cons] at hst
    have ex : (Int32.ofInt x).toInt = x := t32 hst.1
    refine lv_lookup (tgt := tg (lkt x d r)) hx hb hd hp rfl (by rw [ex]; exact ho x) ?_
    exact hJ _ _ _ _ _ _ (lkp_at hop) p l e s m args below meth c D cA A H locs cells slots ad ad0 n0 lsc (CXst X hst.2)
  · exact hop.elim
end OPS
