/-! FIELDS, ARRAYS, CALLS, RETURNS -/
def CF (ci : Nat) (C : String) (T : u_T) (N : Nat) : Prop := vwCl[ci]? = some (C, T, N) ∧ (∀ w ∈ u_ws C T N, w ∈ TB) ∧ (∀ k, k < N → parseFieldDescriptor (T k).2.2.1 = some (FT ci k)) ∧ ∀ a, a < N → ∀ b, b < N → a ≠ b → (T a).2.1 ≠ (T b).2.1
theorem CF.nf {ci : Nat} {C : String} {T : u_T} {N : Nat} (h : CF ci C T N) : NF ci = N := by unfold NF; rw [h.1]; rfl
theorem ent_obj {S : Sys} {cA : FieldType → ClassId} {ad : Nat → Nat} {h : AH} {q ci : Nat} (hq : S q = some (.inl ci)) : ent S cA ad h q = .inr (ci, (List.range (NF ci)).map (fun k => fv ad h q k (FT ci k))) := by unfold ent; rw [hq]
theorem fs_at {α : Type} {N k : Nat} {f : Nat → α} (hk : k < N) : ((List.range N).map f)[k]? = some (f k) := by rw [List.getElem?_map, List.getElem?_range hk]; rfl
theorem map_set {α : Type} {N k : Nat} {f f' : Nat → α} {v : α} (h1 : f' k = v) (h2 : ∀ j, j ≠ k → f' j = f j) : ((List.range N).map f).set k v = (List.range N).map f' := by
  apply List.ext_getElem?
  intro j
  rw [List.getElem?_set]
  by_cases hj : k = j
  · subst hj
    rw [if_pos rfl]
    by_cases hl : k < N
    · rw [if_pos (by simpa using hl), fs_at hl, h1]
    · rw [if_neg (by simpa using hl), List.getElem?_eq_none (by simp; omega)]
  · rw [if_neg hj]
    by_cases hl : j < N
    · rw [fs_at hl, fs_at hl, h2 j (Ne.symm hj)]
    · rw [List.getElem?_eq_none (by simp; omega), List.getElem?_eq_none (by simp; omega)]
theorem fv_si {ad : Nat → Nat} {h : AH} {o k : Nat} {v : Int} {a j : Nat} {ty : FieldType} (hne : ¬ (a = o ∧ j = k)) : fv ad (si h o k v) a j ty = fv ad h a j ty := by
  have e : gi (si h o k v) a j = gi h a j := by simp [gi, si, up2, hne]
  unfold fv; split <;> first | rfl | rw [e]
theorem fv_sl {ad : Nat → Nat} {h : AH} {o k : Nat} {v : Int} {a j : Nat} {ty : FieldType} (hne : ¬ (a = o ∧ j = k)) : fv ad (sl h o k v) a j ty = fv ad h a j ty := by
  have e : gl (sl h o k v) a j = gl h a j := by simp [gl, sl, up2, hne]
  unfold fv; split <;> first | rfl | rw [e]
theorem fv_sr {ad : Nat → Nat} {h : AH} {o k : Nat} {v : Nat} {a j : Nat} {ty : FieldType} (hne : ¬ (a = o ∧ j = k)) : fv ad (sr h o k v) a j ty = fv ad h a j ty := by
  have e : gr (sr h o k v) a j = gr h a j := by simp [gr, sr, up2, hne]
  unfold fv; split <;> first | rfl | rw [e]
theorem ent_ext {S : Sys} {cA : FieldType → ClassId} {ad ad' : Nat → Nat} {h h' : AH} {a : Nat} (h1 : ∀ k, gi h' a k = gi h a k) (h2 : ∀ k, rv ad' (gr h' a k) = rv ad (gr h a k)) (h3 : ∀ k, gl h' a k = gl h a k) (h4 : ∀ k, rq ad' (gr h' a k) = rq ad (gr h a k)) : ent S cA ad' h' a = ent S cA ad h a := by
  have e : ∀ k ty, fv ad' h' a k ty = fv ad h a k ty := by
    intro k ty
    unfold fv; split <;> first | rw [h1] | rw [h2] | rw [h3]
  unfold ent
  split
  · congr 3; funext k; exact e k _
  · congr 7; funext k; exact h4 k
  · congr 4; funext k; rw [h1]
  · rfl
theorem ent_si {S : Sys} {cA : FieldType → ClassId} {ad : Nat → Nat} {h : AH} {o k : Nat} {v : Int} {a : Nat} (hne : a ≠ o) : ent S cA ad (si h o k v) a = ent S cA ad h a :=
  ent_ext (fun j => by simp [gi, si, up2, hne]) (fun j => rfl) (fun j => rfl) (fun j => rfl)
theorem ent_sl {S : Sys} {cA : FieldType → ClassId} {ad : Nat → Nat} {h : AH} {o k : Nat} {v : Int} {a : Nat} (hne : a ≠ o) : ent S cA ad (sl h o k v) a = ent S cA ad h a :=
  ent_ext (fun j => rfl) (fun j => rfl) (fun j => by simp [gl, sl, up2, hne]) (fun j => rfl)
theorem ent_sr {S : Sys} {cA : FieldType → ClassId} {ad : Nat → Nat} {h : AH} {o k : Nat} {v : Nat} {a : Nat} (hne : a ≠ o) : ent S cA ad (sr h o k v) a = ent S cA ad h a := by
  have e : ∀ j, gr (sr h o k v) a j = gr h a j := fun j => by simp [gr, sr, up2, hne]
  exact ent_ext (fun j => rfl) (fun j => by rw [e]) (fun j => rfl) (fun j => by rw [e])
theorem okH_si {h : AH} {o k : Nat} {v : Int} (hH : okH h) (hv : ok32 v) : okH (si h o k v) := by
  refine ⟨fun a j => ?_, hH.2.1, hH.2.2⟩
  show ok32 (up2 h.2.1 o k v a j)
  unfold up2; split
  · exact hv
  · exact hH.1 a j
theorem okH_sl {h : AH} {o k : Nat} {v : Int} (hH : okH h) (hv : ok64 v) : okH (sl h o k v) := by
  refine ⟨hH.1, hH.2.1, fun a j => ?_⟩
  show ok64 (up2 h.2.2.2 o k v a j)
  unfold up2; split
  · exact hv
  · exact hH.2.2 a j
theorem okH_sr {h : AH} {o k : Nat} {v : Nat} (hH : okH h) (hv : v ≤ cn h) : okH (sr h o k v) := by
  refine ⟨hH.1, fun a j => ?_, hH.2.2⟩
  show up2 h.2.2.1 o k v a j ≤ cn h
  unfold up2; split
  · exact hv
  · exact hH.2.1 a j
section HOPS
variable {S : Sys} {mi : MI} {pc : Nat} {tg : Nat → Nat}
theorem q_pos {S : Sys} {q : Nat} {x : Nat ⊕ (FieldType × Nat)} (hS0 : S 0 = none) (hq : S q = some x) : 1 ≤ q := by
  rcases Nat.eq_zero_or_pos q with h | h
  · subst h; rw [hS0] at hq; cases hq
  · exact h
theorem rv_pos {ad : Nat → Nat} {q : Nat} (h : 1 ≤ q) : rv ad q = .ref (ad q) := by unfold rv; rw [if_neg (by omega)]
def op_geti (S : Sys) (ci k : Nat) : Op := fun next _ _ bc bs ls st h => match st with
  | .inr (.inr q) :: st => S q = some (.inl ci) ∧ next bc bs ls (.inl (gi h q k) :: st) h
  | _ => False
theorem so_geti {ci k index N : Nat} {C ref : String} {T : u_T} (hS0 : S 0 = none) (hCF : CF ci C T N) (hk : k < N) (hf : ∀ (ad : Nat → Nat) (h : AH) (q : Nat), fv ad h q k (FT ci k) = .int (Int32.ofInt (gi h q k))) (hl : Cond.fieldLink mi.1.cls index ref (T k).2.1 (T k).2.2.1 ∈ TB) (hrf : ref = (T k).1) (hd : decode mi.2.1 pc = .ok (.getfield index, 3)) : SO S mi pc (pc + 3) tg (op_geti S ci k) := by
  intro next J Q bc bs ls st h hn hJ hop
  unfold op_geti at hop
  split at hop
  · rename_i q st
    obtain ⟨hq, hop⟩ := hop
    intro p l e s m args below meth c D cA A H locs cells slots ad ad0 n0 lsc X
    obtain ⟨hC, ⟨hP, hD, hH⟩, hS, hB, hA0, hL, hok, hst⟩ := id X
    obtain ⟨hx, hb, hml, hr, hts, hown, hlk, hK, hAq, hnm, hNB⟩ := id hC
    rw [okS_cons] at hst
    have hq1 := q_pos hS0 hq
    have hat := wld_at (S := S) (cA := cA) (ad := ad) (h := h) hq1 hst.1
    rw [ent_obj hq, hCF.nf] at hat
    rw [List.map_cons, show cv ad (.inr (.inr q)) = .ref (ad q) from rv_pos hq1]
    refine va_get hx hb (fun w hw => tb_use hts hw) hCF.2.1 hown hK hP (q - 1) hat hCF.1 k hk (tb_use hts hl) (fun x hx => by rw [hrf]; exact hx) ((fs_at hk).trans (congrArg some (hf ad h q))) hd ?_
    exact hn _ _ _ _ _ hop p l e s m args below meth c D cA A H locs cells slots ad ad0 n0 lsc (CXst X (okS_cons.mpr ⟨hH.1 q k, hst.2⟩))
  · exact hop.elim
theorem so_getiN {ci k index N : Nat} {C ref : String} {host : String} {T : u_T} (hS0 : S 0 = none) (hCF : CF ci C T N) (hk : k < N) (hf : ∀ (ad : Nat → Nat) (h : AH) (q : Nat), fv ad h q k (FT ci k) = .int (Int32.ofInt (gi h q k))) (hl : Cond.fieldLinkNest mi.1.cls index ref (T k).2.1 (T k).2.2.1 host ∈ NB) (hrf : ref = (T k).1) (hd : decode mi.2.1 pc = .ok (.getfield index, 3)) : SO S mi pc (pc + 3) tg (op_geti S ci k) := by
  intro next J Q bc bs ls st h hn hJ hop
  unfold op_geti at hop
  split at hop
  · rename_i q st
    obtain ⟨hq, hop⟩ := hop
    intro p l e s m args below meth c D cA A H locs cells slots ad ad0 n0 lsc X
    obtain ⟨hC, ⟨hP, hD, hH⟩, hS, hB, hA0, hL, hok, hst⟩ := id X
    obtain ⟨hx, hb, hml, hr, hts, hown, hlk, hK, hAq, hnm, hNB⟩ := id hC
    rw [okS_cons] at hst
    have hq1 := q_pos hS0 hq
    have hat := wld_at (S := S) (cA := cA) (ad := ad) (h := h) hq1 hst.1
    rw [ent_obj hq, hCF.nf] at hat
    rw [List.map_cons, show cv ad (.inr (.inr q)) = .ref (ad q) from rv_pos hq1]
    refine va_getN hx hb (fun w hw => tb_use hts hw) hCF.2.1 hown hK hP (q - 1) hat hCF.1 k hk (va_Nw.use rfl (hNB.1.1 _ hl)) (fun x hx => by rw [hrf]; exact hx) ((fs_at hk).trans (congrArg some (hf ad h q))) hd ?_
    exact hn _ _ _ _ _ hop p l e s m args below meth c D cA A H locs cells slots ad ad0 n0 lsc (CXst X (okS_cons.mpr ⟨hH.1 q k, hst.2⟩))
  · exact hop.elim
def op_getl (S : Sys) (ci k : Nat) : Op := fun next _ _ bc bs ls st h => match st with
  | .inr (.inr q) :: st => S q = some (.inl ci) ∧ next bc bs ls (.inr (.inl (gl h q k)) :: st) h
  | _ => False
theorem so_getl {ci k index N : Nat} {C ref : String} {T : u_T} (hS0 : S 0 = none) (hCF : CF ci C T N) (hk : k < N) (hf : ∀ (ad : Nat → Nat) (h : AH) (q : Nat), fv ad h q k (FT ci k) = .long (Int64.ofInt (gl h q k))) (hl : Cond.fieldLink mi.1.cls index ref (T k).2.1 (T k).2.2.1 ∈ TB) (hrf : ref = (T k).1) (hd : decode mi.2.1 pc = .ok (.getfield index, 3)) : SO S mi pc (pc + 3) tg (op_getl S ci k) := by
  intro next J Q bc bs ls st h hn hJ hop
  unfold op_getl at hop
  split at hop
  · rename_i q st
    obtain ⟨hq, hop⟩ := hop
    intro p l e s m args below meth c D cA A H locs cells slots ad ad0 n0 lsc X
    obtain ⟨hC, ⟨hP, hD, hH⟩, hS, hB, hA0, hL, hok, hst⟩ := id X
    obtain ⟨hx, hb, hml, hr, hts, hown, hlk, hK, hAq, hnm, hNB⟩ := id hC
    rw [okS_cons] at hst
    have hq1 := q_pos hS0 hq
    have hat := wld_at (S := S) (cA := cA) (ad := ad) (h := h) hq1 hst.1
    rw [ent_obj hq, hCF.nf] at hat
    rw [List.map_cons, show cv ad (.inr (.inr q)) = .ref (ad q) from rv_pos hq1]
    refine va_get hx hb (fun w hw => tb_use hts hw) hCF.2.1 hown hK hP (q - 1) hat hCF.1 k hk (tb_use hts hl) (fun x hx => by rw [hrf]; exact hx) ((fs_at hk).trans (congrArg some (hf ad h q))) hd ?_
    exact hn _ _ _ _ _ hop p l e s m args below meth c D cA A H locs cells slots ad ad0 n0 lsc (CXst X (okS_cons.mpr ⟨hH.2.2 q k, hst.2⟩))
  · exact hop.elim
theorem so_getlN {ci k index N : Nat} {C ref : String} {host : String} {T : u_T} (hS0 : S 0 = none) (hCF : CF ci C T N) (hk : k < N) (hf : ∀ (ad : Nat → Nat) (h : AH) (q : Nat), fv ad h q k (FT ci k) = .long (Int64.ofInt (gl h q k))) (hl : Cond.fieldLinkNest mi.1.cls index ref (T k).2.1 (T k).2.2.1 host ∈ NB) (hrf : ref = (T k).1) (hd : decode mi.2.1 pc = .ok (.getfield index, 3)) : SO S mi pc (pc + 3) tg (op_getl S ci k) := by
  intro next J Q bc bs ls st h hn hJ hop
  unfold op_getl at hop
  split at hop
  · rename_i q st
    obtain ⟨hq, hop⟩ := hop
    intro p l e s m args below meth c D cA A H locs cells slots ad ad0 n0 lsc X
    obtain ⟨hC, ⟨hP, hD, hH⟩, hS, hB, hA0, hL, hok, hst⟩ := id X
    obtain ⟨hx, hb, hml, hr, hts, hown, hlk, hK, hAq, hnm, hNB⟩ := id hC
    rw [okS_cons] at hst
    have hq1 := q_pos hS0 hq
    have hat := wld_at (S := S) (cA := cA) (ad := ad) (h := h) hq1 hst.1
    rw [ent_obj hq, hCF.nf] at hat
    rw [List.map_cons, show cv ad (.inr (.inr q)) = .ref (ad q) from rv_pos hq1]
    refine va_getN hx hb (fun w hw => tb_use hts hw) hCF.2.1 hown hK hP (q - 1) hat hCF.1 k hk (va_Nw.use rfl (hNB.1.1 _ hl)) (fun x hx => by rw [hrf]; exact hx) ((fs_at hk).trans (congrArg some (hf ad h q))) hd ?_
    exact hn _ _ _ _ _ hop p l e s m args below meth c D cA A H locs cells slots ad ad0 n0 lsc (CXst X (okS_cons.mpr ⟨hH.2.2 q k, hst.2⟩))
  · exact hop.elim
def op_getr (S : Sys) (ci k : Nat) : Op := fun next _ _ bc bs ls st h => match st with
  | .inr (.inr q) :: st => S q = some (.inl ci) ∧ next bc bs ls (.inr (.inr (gr h q k)) :: st) h
  | _ => False
theorem so_getr {ci k index N : Nat} {C ref : String} {T : u_T} (hS0 : S 0 = none) (hCF : CF ci C T N) (hk : k < N) (hf : ∀ (ad : Nat → Nat) (h : AH) (q : Nat), fv ad h q k (FT ci k) = rv ad (gr h q k)) (hl : Cond.fieldLink mi.1.cls index ref (T k).2.1 (T k).2.2.1 ∈ TB) (hrf : ref = (T k).1) (hd : decode mi.2.1 pc = .ok (.getfield index, 3)) : SO S mi pc (pc + 3) tg (op_getr S ci k) := by
  intro next J Q bc bs ls st h hn hJ hop
  unfold op_getr at hop
  split at hop
  · rename_i q st
    obtain ⟨hq, hop⟩ := hop
    intro p l e s m args below meth c D cA A H locs cells slots ad ad0 n0 lsc X
    obtain ⟨hC, ⟨hP, hD, hH⟩, hS, hB, hA0, hL, hok, hst⟩ := id X
    obtain ⟨hx, hb, hml, hr, hts, hown, hlk, hK, hAq, hnm, hNB⟩ := id hC
    rw [okS_cons] at hst
    have hq1 := q_pos hS0 hq
    have hat := wld_at (S := S) (cA := cA) (ad := ad) (h := h) hq1 hst.1
    rw [ent_obj hq, hCF.nf] at hat
    rw [List.map_cons, show cv ad (.inr (.inr q)) = .ref (ad q) from rv_pos hq1]
    refine va_get hx hb (fun w hw => tb_use hts hw) hCF.2.1 hown hK hP (q - 1) hat hCF.1 k hk (tb_use hts hl) (fun x hx => by rw [hrf]; exact hx) ((fs_at hk).trans (congrArg some (hf ad h q))) hd ?_
    exact hn _ _ _ _ _ hop p l e s m args below meth c D cA A H locs cells slots ad ad0 n0 lsc (CXst X (okS_cons.mpr ⟨hH.2.1 q k, hst.2⟩))
  · exact hop.elim
theorem so_getrN {ci k index N : Nat} {C ref : String} {host : String} {T : u_T} (hS0 : S 0 = none) (hCF : CF ci C T N) (hk : k < N) (hf : ∀ (ad : Nat → Nat) (h : AH) (q : Nat), fv ad h q k (FT ci k) = rv ad (gr h q k)) (hl : Cond.fieldLinkNest mi.1.cls index ref (T k).2.1 (T k).2.2.1 host ∈ NB) (hrf : ref = (T k).1) (hd : decode mi.2.1 pc = .ok (.getfield index, 3)) : SO S mi pc (pc + 3) tg (op_getr S ci k) := by
  intro next J Q bc bs ls st h hn hJ hop
  unfold op_getr at hop
  split at hop
  · rename_i q st
    obtain ⟨hq, hop⟩ := hop
    intro p l e s m args below meth c D cA A H locs cells slots ad ad0 n0 lsc X
    obtain ⟨hC, ⟨hP, hD, hH⟩, hS, hB, hA0, hL, hok, hst⟩ := id X
    obtain ⟨hx, hb, hml, hr, hts, hown, hlk, hK, hAq, hnm, hNB⟩ := id hC
    rw [okS_cons] at hst
    have hq1 := q_pos hS0 hq
    have hat := wld_at (S := S) (cA := cA) (ad := ad) (h := h) hq1 hst.1
    rw [ent_obj hq, hCF.nf] at hat
    rw [List.map_cons, show cv ad (.inr (.inr q)) = .ref (ad q) from rv_pos hq1]
    refine va_getN hx hb (fun w hw => tb_use hts hw) hCF.2.1 hown hK hP (q - 1) hat hCF.1 k hk (va_Nw.use rfl (hNB.1.1 _ hl)) (fun x hx => by rw [hrf]; exact hx) ((fs_at hk).trans (congrArg some (hf ad h q))) hd ?_
    exact hn _ _ _ _ _ hop p l e s m args below meth c D cA A H locs cells slots ad ad0 n0 lsc (CXst X (okS_cons.mpr ⟨hH.2.1 q k, hst.2⟩))
  · exact hop.elim
def op_puti (S : Sys) (ci k : Nat) : Op := fun next _ _ bc bs ls st h => match st with
  | .inl v :: .inr (.inr q) :: st => S q = some (.inl ci) ∧ next bc bs ls st (si h q k v)
  | _ => False
theorem so_puti {ci k index N : Nat} {C ref : String} {T : u_T} (hS0 : S 0 = none) (hCF : CF ci C T N) (hk : k < N) (hty : FT ci k = .int) (hl : Cond.fieldLink mi.1.cls index ref (T k).2.1 (T k).2.2.1 ∈ TB) (hrf : ref = (T k).1) (hfin : (T k).2.2.2 = false) (hd : decode mi.2.1 pc = .ok (.putfield index, 3)) : SO S mi pc (pc + 3) tg (op_puti S ci k) := by
  intro next J Q bc bs ls st h hn hJ hop
  unfold op_puti at hop
  split at hop
  · rename_i v q st
    obtain ⟨hq, hop⟩ := hop
    intro p l e s m args below meth c D cA A H locs cells slots ad ad0 n0 lsc X
    obtain ⟨hC, ⟨hP, hD, hH⟩, hS, hB, hA0, hL, hok, hst⟩ := id X
    obtain ⟨hx, hb, hml, hr, hts, hown, hlk, hK, hAq, hnm, hNB⟩ := id hC
    rw [okS_cons, okS_cons] at hst
    have hq1 := q_pos hS0 hq
    have hat := wld_at (S := S) (cA := cA) (ad := ad) (h := h) hq1 hst.2.1
    rw [ent_obj hq, hCF.nf] at hat
    rw [List.map_cons, List.map_cons, show cv ad (.inr (.inr q)) = .ref (ad q) from rv_pos hq1]
    refine va_put hx hb (fun w hw => tb_use hts hw) hCF.2.1 (FT ci) hCF.2.2.1 hCF.2.2.2 hown hK hP hD hS (q - 1) hat hCF.1 k hk (tb_use hts hl) (fun x hx => by rw [hrf]; exact hx) hfin (hCF.2.2.1 k hk) (by rw [hty]; rfl) (by rw [hty]; rfl) (by simpa using hk) hd (fun H1 locs1 hP1 hD1 hS1 => ?_)
    have e1 : (wld S cA ad h).set (q - 1) (ad q, .inr (ci, ((List.range N).map (fun j => fv ad h q j (FT ci j))).set k (cv ad (.inl v)))) = wld S cA ad (si h q k v) := by
      refine wld_set hq1 rfl ?_ (fun a ha => ent_si ha)
      rw [ent_obj hq, hCF.nf]
      congr 2
      refine map_set ?_ (fun j hj => fv_si (fun z => hj z.2))
      have e2 : gi (si h q k v) q k = v := by simp [gi, si, up2]
      have e3 : fv ad (si h q k v) q k (FT ci k) = .int (Int32.ofInt (gi (si h q k v) q k)) := by unfold fv; rw [hty]
      rw [e3, e2]
      rfl
    rw [e1] at hP1 hD1
    exact hn _ _ _ _ _ hop p l e s m args below meth c D cA A H1 locs1 cells slots ad ad0 n0 lsc (CXhp X rfl hP1 hD1 hS1 (okH_si hH hst.1) hst.2.2)
  · exact hop.elim
theorem so_putiN {ci k index N : Nat} {C ref : String} {host : String} {T : u_T} (hS0 : S 0 = none) (hCF : CF ci C T N) (hk : k < N) (hty : FT ci k = .int) (hl : Cond.fieldLinkNest mi.1.cls index ref (T k).2.1 (T k).2.2.1 host ∈ NB) (hrf : ref = (T k).1) (hfin : (T k).2.2.2 = false) (hd : decode mi.2.1 pc = .ok (.putfield index, 3)) : SO S mi pc (pc + 3) tg (op_puti S ci k) := by
  intro next J Q bc bs ls st h hn hJ hop
  unfold op_puti at hop
  split at hop
  · rename_i v q st
    obtain ⟨hq, hop⟩ := hop
    intro p l e s m args below meth c D cA A H locs cells slots ad ad0 n0 lsc X
    obtain ⟨hC, ⟨hP, hD, hH⟩, hS, hB, hA0, hL, hok, hst⟩ := id X
    obtain ⟨hx, hb, hml, hr, hts, hown, hlk, hK, hAq, hnm, hNB⟩ := id hC
    rw [okS_cons, okS_cons] at hst
    have hq1 := q_pos hS0 hq
    have hat := wld_at (S := S) (cA := cA) (ad := ad) (h := h) hq1 hst.2.1
    rw [ent_obj hq, hCF.nf] at hat
    rw [List.map_cons, List.map_cons, show cv ad (.inr (.inr q)) = .ref (ad q) from rv_pos hq1]
    refine va_putN hx hb (fun w hw => tb_use hts hw) hCF.2.1 (FT ci) hCF.2.2.1 hCF.2.2.2 hown hK hP hD hS (q - 1) hat hCF.1 k hk (va_Nw.use rfl (hNB.1.1 _ hl)) (fun x hx => by rw [hrf]; exact hx) hfin (hCF.2.2.1 k hk) (by rw [hty]; rfl) (by rw [hty]; rfl) (by simpa using hk) hd (fun H1 locs1 hP1 hD1 hS1 => ?_)
    have e1 : (wld S cA ad h).set (q - 1) (ad q, .inr (ci, ((List.range N).map (fun j => fv ad h q j (FT ci j))).set k (cv ad (.inl v)))) = wld S cA ad (si h q k v) := by
      refine wld_set hq1 rfl ?_ (fun a ha => ent_si ha)
      rw [ent_obj hq, hCF.nf]
      congr 2
      refine map_set ?_ (fun j hj => fv_si (fun z => hj z.2))
      have e2 : gi (si h q k v) q k = v := by simp [gi, si, up2]
      have e3 : fv ad (si h q k v) q k (FT ci k) = .int (Int32.ofInt (gi (si h q k v) q k)) := by unfold fv; rw [hty]
      rw [e3, e2]
      rfl
    rw [e1] at hP1 hD1
    exact hn _ _ _ _ _ hop p l e s m args below meth c D cA A H1 locs1 cells slots ad ad0 n0 lsc (CXhp X rfl hP1 hD1 hS1 (okH_si hH hst.1) hst.2.2)
  · exact hop.elim
def op_putz (S : Sys) (ci k : Nat) : Op := fun next _ _ bc bs ls st h => match st with
  | .inl v :: .inr (.inr q) :: st => S q = some (.inl ci) ∧ (v = 0 ∨ v = 1) ∧ next bc bs ls st (si h q k v)
  | _ => False
theorem so_putz {ci k index N : Nat} {C ref : String} {T : u_T} (hS0 : S 0 = none) (hCF : CF ci C T N) (hk : k < N) (hty : FT ci k = .boolean) (hl : Cond.fieldLink mi.1.cls index ref (T k).2.1 (T k).2.2.1 ∈ TB) (hrf : ref = (T k).1) (hfin : (T k).2.2.2 = false) (hd : decode mi.2.1 pc = .ok (.putfield index, 3)) : SO S mi pc (pc + 3) tg (op_putz S ci k) := by
  intro next J Q bc bs ls st h hn hJ hop
  unfold op_putz at hop
  split at hop
  · rename_i v q st
    obtain ⟨hq, hv, hop⟩ := hop
    intro p l e s m args below meth c D cA A H locs cells slots ad ad0 n0 lsc X
    obtain ⟨hC, ⟨hP, hD, hH⟩, hS, hB, hA0, hL, hok, hst⟩ := id X
    obtain ⟨hx, hb, hml, hr, hts, hown, hlk, hK, hAq, hnm, hNB⟩ := id hC
    rw [okS_cons, okS_cons] at hst
    have hq1 := q_pos hS0 hq
    have hat := wld_at (S := S) (cA := cA) (ad := ad) (h := h) hq1 hst.2.1
    rw [ent_obj hq, hCF.nf] at hat
    rw [List.map_cons, List.map_cons, show cv ad (.inr (.inr q)) = .ref (ad q) from rv_pos hq1]
    refine va_put hx hb (fun w hw => tb_use hts hw) hCF.2.1 (FT ci) hCF.2.2.1 hCF.2.2.2 hown hK hP hD hS (q - 1) hat hCF.1 k hk (tb_use hts hl) (fun x hx => by rw [hrf]; exact hx) hfin (hCF.2.2.1 k hk) (by rw [hty]; rcases hv with rfl | rfl <;> rfl) (by rw [hty]; rcases hv with rfl | rfl <;> rfl) (by simpa using hk) hd (fun H1 locs1 hP1 hD1 hS1 => ?_)
    have e1 : (wld S cA ad h).set (q - 1) (ad q, .inr (ci, ((List.range N).map (fun j => fv ad h q j (FT ci j))).set k (cv ad (.inl v)))) = wld S cA ad (si h q k v) := by
      refine wld_set hq1 rfl ?_ (fun a ha => ent_si ha)
      rw [ent_obj hq, hCF.nf]
      congr 2
      refine map_set ?_ (fun j hj => fv_si (fun z => hj z.2))
      have e2 : gi (si h q k v) q k = v := by simp [gi, si, up2]
      have e3 : fv ad (si h q k v) q k (FT ci k) = .int (Int32.ofInt (gi (si h q k v) q k)) := by unfold fv; rw [hty]
      rw [e3, e2]
      rfl
    rw [e1] at hP1 hD1
    exact hn _ _ _ _ _ hop p l e s m args below meth c D cA A H1 locs1 cells slots ad ad0 n0 lsc (CXhp X rfl hP1 hD1 hS1 (okH_si hH hst.1) hst.2.2)
  · exact hop.elim
theorem so_putzN {ci k index N : Nat} {C ref : String} {host : String} {T : u_T} (hS0 : S 0 = none) (hCF : CF ci C T N) (hk : k < N) (hty : FT ci k = .boolean) (hl : Cond.fieldLinkNest mi.1.cls index ref (T k).2.1 (T k).2.2.1 host ∈ NB) (hrf : ref = (T k).1) (hfin : (T k).2.2.2 = false) (hd : decode mi.2.1 pc = .ok (.putfield index, 3)) : SO S mi pc (pc + 3) tg (op_putz S ci k) := by
  intro next J Q bc bs ls st h hn hJ hop
  unfold op_putz at hop
  split at hop
  · rename_i v q st
    obtain ⟨hq, hv, hop⟩ := hop
    intro p l e s m args below meth c D cA A H locs cells slots ad ad0 n0 lsc X
    obtain ⟨hC, ⟨hP, hD, hH⟩, hS, hB, hA0, hL, hok, hst⟩ := id X
    obtain ⟨hx, hb, hml, hr, hts, hown, hlk, hK, hAq, hnm, hNB⟩ := id hC
    rw [okS_cons, okS_cons] at hst
    have hq1 := q_pos hS0 hq
    have hat := wld_at (S := S) (cA := cA) (ad := ad) (h := h) hq1 hst.2.1
    rw [ent_obj hq, hCF.nf] at hat
    rw [List.map_cons, List.map_cons, show cv ad (.inr (.inr q)) = .ref (ad q) from rv_pos hq1]
    refine va_putN hx hb (fun w hw => tb_use hts hw) hCF.2.1 (FT ci) hCF.2.2.1 hCF.2.2.2 hown hK hP hD hS (q - 1) hat hCF.1 k hk (va_Nw.use rfl (hNB.1.1 _ hl)) (fun x hx => by rw [hrf]; exact hx) hfin (hCF.2.2.1 k hk) (by rw [hty]; rcases hv with rfl | rfl <;> rfl) (by rw [hty]; rcases hv with rfl | rfl <;> rfl) (by simpa using hk) hd (fun H1 locs1 hP1 hD1 hS1 => ?_)
    have e1 : (wld S cA ad h).set (q - 1) (ad q, .inr (ci, ((List.range N).map (fun j => fv ad h q j (FT ci j))).set k (cv ad (.inl v)))) = wld S cA ad (si h q k v) := by
      refine wld_set hq1 rfl ?_ (fun a ha => ent_si ha)
      rw [ent_obj hq, hCF.nf]
      congr 2
      refine map_set ?_ (fun j hj => fv_si (fun z => hj z.2))
      have e2 : gi (si h q k v) q k = v := by simp [gi, si, up2]
      have e3 : fv ad (si h q k v) q k (FT ci k) = .int (Int32.ofInt (gi (si h q k v) q k)) := by unfold fv; rw [hty]
      rw [e3, e2]
      rfl
    rw [e1] at hP1 hD1
    exact hn _ _ _ _ _ hop p l e s m args below meth c D cA A H1 locs1 cells slots ad ad0 n0 lsc (CXhp X rfl hP1 hD1 hS1 (okH_si hH hst.1) hst.2.2)
  · exact hop.elim
def op_putl (S : Sys) (ci k : Nat) : Op := fun next _ _ bc bs ls st h => match st with
  | .inr (.inl v) :: .inr (.inr q) :: st => S q = some (.inl ci) ∧ next bc bs ls st (sl h q k v)
  | _ => False
theorem so_putl {ci k index N : Nat} {C ref : String} {T : u_T} (hS0 : S 0 = none) (hCF : CF ci C T N) (hk : k < N) (hty : FT ci k = .long) (hl : Cond.fieldLink mi.1.cls index ref (T k).2.1 (T k).2.2.1 ∈ TB) (hrf : ref = (T k).1) (hfin : (T k).2.2.2 = false) (hd : decode mi.2.1 pc = .ok (.putfield index, 3)) : SO S mi pc (pc + 3) tg (op_putl S ci k) := by
  intro next J Q bc bs ls st h hn hJ hop
  unfold op_putl at hop
  split at hop
  · rename_i v q st
    obtain ⟨hq, hop⟩ := hop
    intro p l e s m args below meth c D cA A H locs cells slots ad ad0 n0 lsc X
    obtain ⟨hC, ⟨hP, hD, hH⟩, hS, hB, hA0, hL, hok, hst⟩ := id X
    obtain ⟨hx, hb, hml, hr, hts, hown, hlk, hK, hAq, hnm, hNB⟩ := id hC
    rw [okS_cons, okS_cons] at hst
    have hq1 := q_pos hS0 hq
    have hat := wld_at (S := S) (cA := cA) (ad := ad) (h := h) hq1 hst.2.1
    rw [ent_obj hq, hCF.nf] at hat
    rw [List.map_cons, List.map_cons, show cv ad (.inr (.inr q)) = .ref (ad q) from rv_pos hq1]
    refine va_put hx hb (fun w hw => tb_use hts hw) hCF.2.1 (FT ci) hCF.2.2.1 hCF.2.2.2 hown hK hP hD hS (q - 1) hat hCF.1 k hk (tb_use hts hl) (fun x hx => by rw [hrf]; exact hx) hfin (hCF.2.2.1 k hk) (by rw [hty]; rfl) (by rw [hty]; rfl) (by simpa using hk) hd (fun H1 locs1 hP1 hD1 hS1 => ?_)
    have e1 : (wld S cA ad h).set (q - 1) (ad q, .inr (ci, ((List.range N).map (fun j => fv ad h q j (FT ci j))).set k (cv ad (.inr (.inl v))))) = wld S cA ad (sl h q k v) := by
      refine wld_set hq1 rfl ?_ (fun a ha => ent_sl ha)
      rw [ent_obj hq, hCF.nf]
      congr 2
      refine map_set ?_ (fun j hj => fv_sl (fun z => hj z.2))
      have e2 : gl (sl h q k v) q k = v := by simp [gl, sl, up2]
      have e3 : fv ad (sl h q k v) q k (FT ci k) = .long (Int64.ofInt (gl (sl h q k v) q k)) := by unfold fv; rw [hty]
      rw [e3, e2]
      rfl
    rw [e1] at hP1 hD1
    exact hn _ _ _ _ _ hop p l e s m args below meth c D cA A H1 locs1 cells slots ad ad0 n0 lsc (CXhp X rfl hP1 hD1 hS1 (okH_sl hH hst.1) hst.2.2)
  · exact hop.elim
theorem so_putlN {ci k index N : Nat} {C ref : String} {host : String} {T : u_T} (hS0 : S 0 = none) (hCF : CF ci C T N) (hk : k < N) (hty : FT ci k = .long) (hl : Cond.fieldLinkNest mi.1.cls index ref (T k).2.1 (T k).2.2.1 host ∈ NB) (hrf : ref = (T k).1) (hfin : (T k).2.2.2 = false) (hd : decode mi.2.1 pc = .ok (.putfield index, 3)) : SO S mi pc (pc + 3) tg (op_putl S ci k) := by
  intro next J Q bc bs ls st h hn hJ hop
  unfold op_putl at hop
  split at hop
  · rename_i v q st
    obtain ⟨hq, hop⟩ := hop
    intro p l e s m args below meth c D cA A H locs cells slots ad ad0 n0 lsc X
    obtain ⟨hC, ⟨hP, hD, hH⟩, hS, hB, hA0, hL, hok, hst⟩ := id X
    obtain ⟨hx, hb, hml, hr, hts, hown, hlk, hK, hAq, hnm, hNB⟩ := id hC
    rw [okS_cons, okS_cons] at hst
    have hq1 := q_pos hS0 hq
    have hat := wld_at (S := S) (cA := cA) (ad := ad) (h := h) hq1 hst.2.1
    rw [ent_obj hq, hCF.nf] at hat
    rw [List.map_cons, List.map_cons, show cv ad (.inr (.inr q)) = .ref (ad q) from rv_pos hq1]
    refine va_putN hx hb (fun w hw => tb_use hts hw) hCF.2.1 (FT ci) hCF.2.2.1 hCF.2.2.2 hown hK hP hD hS (q - 1) hat hCF.1 k hk (va_Nw.use rfl (hNB.1.1 _ hl)) (fun x hx => by rw [hrf]; exact hx) hfin (hCF.2.2.1 k hk) (by rw [hty]; rfl) (by rw [hty]; rfl) (by simpa using hk) hd (fun H1 locs1 hP1 hD1 hS1 => ?_)
    have e1 : (wld S cA ad h).set (q - 1) (ad q, .inr (ci, ((List.range N).map (fun j => fv ad h q j (FT ci j))).set k (cv ad (.inr (.inl v))))) = wld S cA ad (sl h q k v) := by
      refine wld_set hq1 rfl ?_ (fun a ha => ent_sl ha)
      rw [ent_obj hq, hCF.nf]
      congr 2
      refine map_set ?_ (fun j hj => fv_sl (fun z => hj z.2))
      have e2 : gl (sl h q k v) q k = v := by simp [gl, sl, up2]
      have e3 : fv ad (sl h q k v) q k (FT ci k) = .long (Int64.ofInt (gl (sl h q k v) q k)) := by unfold fv; rw [hty]
      rw [e3, e2]
      rfl
    rw [e1] at hP1 hD1
    exact hn _ _ _ _ _ hop p l e s m args below meth c D cA A H1 locs1 cells slots ad ad0 n0 lsc (CXhp X rfl hP1 hD1 hS1 (okH_sl hH hst.1) hst.2.2)
  · exact hop.elim
def op_putr (S : Sys) (ci k : Nat) : Op := fun next _ _ bc bs ls st h => match st with
  | .inr (.inr v) :: .inr (.inr q) :: st => S q = some (.inl ci) ∧ next bc bs ls st (sr h q k v)
  | _ => False
theorem so_putr {ci k index N : Nat} {C ref : String} {T : u_T} (hS0 : S 0 = none) (hCF : CF ci C T N) (hk : k < N) (hty : (∃ d, FT ci k = .object d) ∨ ∃ d, FT ci k = .array d) (hl : Cond.fieldLink mi.1.cls index ref (T k).2.1 (T k).2.2.1 ∈ TB) (hrf : ref = (T k).1) (hfin : (T k).2.2.2 = false) (hd : decode mi.2.1 pc = .ok (.putfield index, 3)) : SO S mi pc (pc + 3) tg (op_putr S ci k) := by
  intro next J Q bc bs ls st h hn hJ hop
  unfold op_putr at hop
  split at hop
  · rename_i v q st
    obtain ⟨hq, hop⟩ := hop
    intro p l e s m args below meth c D cA A H locs cells slots ad ad0 n0 lsc X
    obtain ⟨hC, ⟨hP, hD, hH⟩, hS, hB, hA0, hL, hok, hst⟩ := id X
    obtain ⟨hx, hb, hml, hr, hts, hown, hlk, hK, hAq, hnm, hNB⟩ := id hC
    rw [okS_cons, okS_cons] at hst
    have hq1 := q_pos hS0 hq
    have hat := wld_at (S := S) (cA := cA) (ad := ad) (h := h) hq1 hst.2.1
    rw [ent_obj hq, hCF.nf] at hat
    rw [List.map_cons, List.map_cons, show cv ad (.inr (.inr q)) = .ref (ad q) from rv_pos hq1]
    refine va_put hx hb (fun w hw => tb_use hts hw) hCF.2.1 (FT ci) hCF.2.2.1 hCF.2.2.2 hown hK hP hD hS (q - 1) hat hCF.1 k hk (tb_use hts hl) (fun x hx => by rw [hrf]; exact hx) hfin (hCF.2.2.1 k hk) (by rcases hty with ⟨d, e⟩ | ⟨d, e⟩ <;> rw [e] <;> (simp only [cv, rv]; split <;> rfl)) (by rcases hty with ⟨d, e⟩ | ⟨d, e⟩ <;> rw [e] <;> (simp only [cv, rv]; split <;> rfl)) (by simpa using hk) hd (fun H1 locs1 hP1 hD1 hS1 => ?_)
    have e1 : (wld S cA ad h).set (q - 1) (ad q, .inr (ci, ((List.range N).map (fun j => fv ad h q j (FT ci j))).set k (cv ad (.inr (.inr v))))) = wld S cA ad (sr h q k v) := by
      refine wld_set hq1 rfl ?_ (fun a ha => ent_sr ha)
      rw [ent_obj hq, hCF.nf]
      congr 2
      refine map_set ?_ (fun j hj => fv_sr (fun z => hj z.2))
      have e2 : gr (sr h q k v) q k = v := by simp [gr, sr, up2]
      have e3 : fv ad (sr h q k v) q k (FT ci k) = rv ad (gr (sr h q k v) q k) := by rcases hty with ⟨d, e⟩ | ⟨d, e⟩ <;> (unfold fv; rw [e])
      rw [e3, e2]
      rfl
    rw [e1] at hP1 hD1
    exact hn _ _ _ _ _ hop p l e s m args below meth c D cA A H1 locs1 cells slots ad ad0 n0 lsc (CXhp X rfl hP1 hD1 hS1 (okH_sr hH hst.1) hst.2.2)
  · exact hop.elim
theorem so_putrN {ci k index N : Nat} {C ref : String} {host : String} {T : u_T} (hS0 : S 0 = none) (hCF : CF ci C T N) (hk : k < N) (hty : (∃ d, FT ci k = .object d) ∨ ∃ d, FT ci k = .array d) (hl : Cond.fieldLinkNest mi.1.cls index ref (T k).2.1 (T k).2.2.1 host ∈ NB) (hrf : ref = (T k).1) (hfin : (T k).2.2.2 = false) (hd : decode mi.2.1 pc = .ok (.putfield index, 3)) : SO S mi pc (pc + 3) tg (op_putr S ci k) := by
  intro next J Q bc bs ls st h hn hJ hop
  unfold op_putr at hop
  split at hop
  · rename_i v q st
    obtain ⟨hq, hop⟩ := hop
    intro p l e s m args below meth c D cA A H locs cells slots ad ad0 n0 lsc X
    obtain ⟨hC, ⟨hP, hD, hH⟩, hS, hB, hA0, hL, hok, hst⟩ := id X
    obtain ⟨hx, hb, hml, hr, hts, hown, hlk, hK, hAq, hnm, hNB⟩ := id hC
    rw [okS_cons, okS_cons] at hst
    have hq1 := q_pos hS0 hq
    have hat := wld_at (S := S) (cA := cA) (ad := ad) (h := h) hq1 hst.2.1
    rw [ent_obj hq, hCF.nf] at hat
    rw [List.map_cons, List.map_cons, show cv ad (.inr (.inr q)) = .ref (ad q) from rv_pos hq1]
    refine va_putN hx hb (fun w hw => tb_use hts hw) hCF.2.1 (FT ci) hCF.2.2.1 hCF.2.2.2 hown hK hP hD hS (q - 1) hat hCF.1 k hk (va_Nw.use rfl (hNB.1.1 _ hl)) (fun x hx => by rw [hrf]; exact hx) hfin (hCF.2.2.1 k hk) (by rcases hty with ⟨d, e⟩ | ⟨d, e⟩ <;> rw [e] <;> (simp only [cv, rv]; split <;> rfl)) (by rcases hty with ⟨d, e⟩ | ⟨d, e⟩ <;> rw [e] <;> (simp only [cv, rv]; split <;> rfl)) (by simpa using hk) hd (fun H1 locs1 hP1 hD1 hS1 => ?_)
    have e1 : (wld S cA ad h).set (q - 1) (ad q, .inr (ci, ((List.range N).map (fun j => fv ad h q j (FT ci j))).set k (cv ad (.inr (.inr v))))) = wld S cA ad (sr h q k v) := by
      refine wld_set hq1 rfl ?_ (fun a ha => ent_sr ha)
      rw [ent_obj hq, hCF.nf]
      congr 2
      refine map_set ?_ (fun j hj => fv_sr (fun z => hj z.2))
      have e2 : gr (sr h q k v) q k = v := by simp [gr, sr, up2]
      have e3 : fv ad (sr h q k v) q k (FT ci k) = rv ad (gr (sr h q k v) q k) := by rcases hty with ⟨d, e⟩ | ⟨d, e⟩ <;> (unfold fv; rw [e])
      rw [e3, e2]
      rfl
    rw [e1] at hP1 hD1
    exact hn _ _ _ _ _ hop p l e s m args below meth c D cA A H1 locs1 cells slots ad ad0 n0 lsc (CXhp X rfl hP1 hD1 hS1 (okH_sr hH hst.1) hst.2.2)
  · exact hop.elim
theorem so_putrF {ci k index N : Nat} {C ref : String} {T : u_T} (hS0 : S 0 = none) (hCF : CF ci C T N) (hk : k < N) (hty : (∃ d, FT ci k = .object d) ∨ ∃ d, FT ci k = .array d) (hl : Cond.fieldLink mi.1.cls index ref (T k).2.1 (T k).2.2.1 ∈ TB) (hrf : ref = (T k).1) (hfin : (T k).2.2.2 = true) (hini : mi.1.name = "<init>") (hdecl : (T k).1 = mi.1.cls) (hd : decode mi.2.1 pc = .ok (.putfield index, 3)) : SO S mi pc (pc + 3) tg (op_putr S ci k) := by
  intro next J Q bc bs ls st h hn hJ hop
  unfold op_putr at hop
  split at hop
  · rename_i v q st
    obtain ⟨hq, hop⟩ := hop
    intro p l e s m args below meth c D cA A H locs cells slots ad ad0 n0 lsc X
    obtain ⟨hC, ⟨hP, hD, hH⟩, hS, hB, hA0, hL, hok, hst⟩ := id X
    obtain ⟨hx, hb, hml, hr, hts, hown, hlk, hK, hAq, hnm, hNB⟩ := id hC
    rw [okS_cons, okS_cons] at hst
    have hq1 := q_pos hS0 hq
    have hat := wld_at (S := S) (cA := cA) (ad := ad) (h := h) hq1 hst.2.1
    rw [ent_obj hq, hCF.nf] at hat
    rw [List.map_cons, List.map_cons, show cv ad (.inr (.inr q)) = .ref (ad q) from rv_pos hq1]
    refine va_putF hx hb (fun w hw => tb_use hts hw) hCF.2.1 (FT ci) hCF.2.2.1 hCF.2.2.2 hown hK hP hD hS (q - 1) hat hCF.1 k hk (tb_use hts hl) (fun x hx => by rw [hrf]; exact hx) hfin (hnm.trans hini) hdecl (hCF.2.2.1 k hk) (by rcases hty with ⟨d, e⟩ | ⟨d, e⟩ <;> rw [e] <;> (simp only [cv, rv]; split <;> rfl)) (by rcases hty with ⟨d, e⟩ | ⟨d, e⟩ <;> rw [e] <;> (simp only [cv, rv]; split <;> rfl)) (by simpa using hk) hd (fun H1 locs1 hP1 hD1 hS1 => ?_)
    have e1 : (wld S cA ad h).set (q - 1) (ad q, .inr (ci, ((List.range N).map (fun j => fv ad h q j (FT ci j))).set k (cv ad (.inr (.inr v))))) = wld S cA ad (sr h q k v) := by
      refine wld_set hq1 rfl ?_ (fun a ha => ent_sr ha)
      rw [ent_obj hq, hCF.nf]
      congr 2
      refine map_set ?_ (fun j hj => fv_sr (fun z => hj z.2))
      have e2 : gr (sr h q k v) q k = v := by simp [gr, sr, up2]
      have e3 : fv ad (sr h q k v) q k (FT ci k) = rv ad (gr (sr h q k v) q k) := by rcases hty with ⟨d, e⟩ | ⟨d, e⟩ <;> (unfold fv; rw [e])
      rw [e3, e2]
      rfl
    rw [e1] at hP1 hD1
    exact hn _ _ _ _ _ hop p l e s m args below meth c D cA A H1 locs1 cells slots ad ad0 n0 lsc (CXhp X rfl hP1 hD1 hS1 (okH_sr hH hst.1) hst.2.2)
  · exact hop.elim
theorem ent_arr {S : Sys} {cA : FieldType → ClassId} {ad : Nat → Nat} {h : AH} {q n : Nat} {ty : FieldType} (hq : S q = some (.inr (ty, n))) (hty : ∀ d, ty ≠ .object d) : ent S cA ad h q = .inl (cA ty, n, .inl (fun k => Int32.ofInt (gi h q k))) := by
  unfold ent; rw [hq]
  cases ty <;> first | rfl | exact absurd rfl (hty _)
theorem ent_arq {S : Sys} {cA : FieldType → ClassId} {ad : Nat → Nat} {h : AH} {q n : Nat} {d : String} (hq : S q = some (.inr (.object d, n))) : ent S cA ad h q = .inl (cA (.object d), n, .inr (.inr (.inr (.inr (fun k => rq ad (gr h q k)))))) := by
  unfold ent; rw [hq]
theorem tys_at {cA : FieldType → ClassId} {i : Nat} {ty : FieldType} (h : ATY[i]? = some ty) : (TYS cA)[i]? = some (cA ty, ty) := by
  unfold TYS; rw [List.getElem?_map, h]; rfl
def op_iald (S : Sys) : Op := fun next _ _ bc bs ls st h => match st with
  | .inl i :: .inr (.inr q) :: st => (match S q with
    | some (.inr (.int, n)) => 0 ≤ i ∧ i < n ∧ next bc bs ls (.inl (gi h q i.toNat) :: st) h
    | _ => False)
  | _ => False
theorem so_iald (hS0 : S 0 = none) (hd : decode mi.2.1 pc = .ok (.iaload, 1)) : SO S mi pc (pc + 1) tg (op_iald S) := by
  intro next J Q bc bs ls st h hn hJ hop
  unfold op_iald at hop
  split at hop
  · rename_i i q st
    split at hop
    · rename_i n hq
      obtain ⟨h0, hi, hop⟩ := hop
      intro p l e s m args below meth c D cA A H locs cells slots ad ad0 n0 lsc X
      obtain ⟨hC, ⟨hP, hD, hH⟩, hS, hB, hA0, hL, hok, hst⟩ := id X
      obtain ⟨hx, hb, hml, hr, hts, hown, hlk, hK, hAq, hnm, hNB⟩ := id hC
      rw [okS_cons, okS_cons] at hst
      have hq1 := q_pos hS0 hq
      have hat := wld_at (S := S) (cA := cA) (ad := ad) (h := h) hq1 hst.2.1
      rw [ent_arr hq (fun d => by simp)] at hat
      rw [List.map_cons, List.map_cons, show cv ad (.inr (.inr q)) = .ref (ad q) from rv_pos hq1]
      refine va_iald hx hb hK hP (q - 1) 0 hat (tys_at rfl) (i32_in hst.1 h0 hi) hd ?_
      rw [i32_nat h0 hst.1]
      exact hn _ _ _ _ _ hop p l e s m args below meth c D cA A H locs cells slots ad ad0 n0 lsc (CXst X (okS_cons.mpr ⟨hH.1 q _, hst.2.2⟩))
    · exact hop.elim
  · exact hop.elim
def op_iast (S : Sys) : Op := fun next _ _ bc bs ls st h => match st with
  | .inl v :: .inl i :: .inr (.inr q) :: st => (match S q with
    | some (.inr (.int, n)) => 0 ≤ i ∧ i < n ∧ next bc bs ls st (si h q i.toNat v)
    | _ => False)
  | _ => False
theorem so_iast (hS0 : S 0 = none) (hd : decode mi.2.1 pc = .ok (.iastore, 1)) : SO S mi pc (pc + 1) tg (op_iast S) := by
  intro next J Q bc bs ls st h hn hJ hop
  unfold op_iast at hop
  split at hop
  · rename_i v i q st
    split at hop
    · rename_i n hq
      obtain ⟨h0, hi, hop⟩ := hop
      intro p l e s m args below meth c D cA A H locs cells slots ad ad0 n0 lsc X
      obtain ⟨hC, ⟨hP, hD, hH⟩, hS, hB, hA0, hL, hok, hst⟩ := id X
      obtain ⟨hx, hb, hml, hr, hts, hown, hlk, hK, hAq, hnm, hNB⟩ := id hC
      rw [okS_cons, okS_cons, okS_cons] at hst
      have hq1 := q_pos hS0 hq
      have hat := wld_at (S := S) (cA := cA) (ad := ad) (h := h) hq1 hst.2.2.1
      rw [ent_arr hq (fun d => by simp)] at hat
      rw [List.map_cons, List.map_cons, List.map_cons, show cv ad (.inr (.inr q)) = .ref (ad q) from rv_pos hq1]
      refine va_iast hx hb hK hP hD hS (q - 1) 0 hat (tys_at rfl) (i32_in hst.2.1 h0 hi) hd (fun H1 locs1 hP1 hD1 hS1 => ?_)
      have e1 : (wld S cA ad h).set (q - 1) (ad q, .inl (cA .int, n, .inl (upd (fun k => Int32.ofInt (gi h q k)) (Int32.ofInt i).toNatClampNeg (Int32.ofInt v)))) = wld S cA ad (si h q i.toNat v) := by
        refine wld_set hq1 rfl ?_ (fun a ha => ent_si ha)
        rw [ent_arr hq (fun d => by simp)]
        congr 4
        funext j
        rw [i32_nat h0 hst.2.1]
        have ev : (Int32.ofInt v) = Int32.ofInt v := rfl
        simp only [upd, ev]
        by_cases hj : j = i.toNat
        · subst hj; simp [gi, si, up2]
        · simp [gi, si, up2, hj]
      rw [e1] at hP1 hD1
      exact hn _ _ _ _ _ hop p l e s m args below meth c D cA A H1 locs1 cells slots ad ad0 n0 lsc (CXhp X rfl hP1 hD1 hS1 (okH_si hH hst.1) hst.2.2.2)
    · exact hop.elim
  · exact hop.elim
def op_zald (S : Sys) : Op := fun next _ _ bc bs ls st h => match st with
  | .inl i :: .inr (.inr q) :: st => (match S q with
    | some (.inr (.boolean, n)) => 0 ≤ i ∧ i < n ∧ next bc bs ls (.inl (gi h q i.toNat) :: st) h
    | _ => False)
  | _ => False
theorem so_zald (hS0 : S 0 = none) (hd : decode mi.2.1 pc = .ok (.baload, 1)) : SO S mi pc (pc + 1) tg (op_zald S) := by
  intro next J Q bc bs ls st h hn hJ hop
  unfold op_zald at hop
  split at hop
  · rename_i i q st
    split at hop
    · rename_i n hq
      obtain ⟨h0, hi, hop⟩ := hop
      intro p l e s m args below meth c D cA A H locs cells slots ad ad0 n0 lsc X
      obtain ⟨hC, ⟨hP, hD, hH⟩, hS, hB, hA0, hL, hok, hst⟩ := id X
      obtain ⟨hx, hb, hml, hr, hts, hown, hlk, hK, hAq, hnm, hNB⟩ := id hC
      rw [okS_cons, okS_cons] at hst
      have hq1 := q_pos hS0 hq
      have hat := wld_at (S := S) (cA := cA) (ad := ad) (h := h) hq1 hst.2.1
      rw [ent_arr hq (fun d => by simp)] at hat
      rw [List.map_cons, List.map_cons, show cv ad (.inr (.inr q)) = .ref (ad q) from rv_pos hq1]
      refine va_zald hx hb hK hP (q - 1) 1 hat (tys_at rfl) (i32_in hst.1 h0 hi) hd ?_
      rw [i32_nat h0 hst.1]
      exact hn _ _ _ _ _ hop p l e s m args below meth c D cA A H locs cells slots ad ad0 n0 lsc (CXst X (okS_cons.mpr ⟨hH.1 q _, hst.2.2⟩))
    · exact hop.elim
  · exact hop.elim
def op_zast (S : Sys) : Op := fun next _ _ bc bs ls st h => match st with
  | .inl v :: .inl i :: .inr (.inr q) :: st => (match S q with
    | some (.inr (.boolean, n)) => 0 ≤ i ∧ i < n ∧ (v = 0 ∨ v = 1) ∧ next bc bs ls st (si h q i.toNat v)
    | _ => False)
  | _ => False
theorem so_zast (hS0 : S 0 = none) (hd : decode mi.2.1 pc = .ok (.bastore, 1)) : SO S mi pc (pc + 1) tg (op_zast S) := by
  intro next J Q bc bs ls st h hn hJ hop
  unfold op_zast at hop
  split at hop
  · rename_i v i q st
    split at hop
    · rename_i n hq
      obtain ⟨h0, hi, hv, hop⟩ := hop
      intro p l e s m args below meth c D cA A H locs cells slots ad ad0 n0 lsc X
      obtain ⟨hC, ⟨hP, hD, hH⟩, hS, hB, hA0, hL, hok, hst⟩ := id X
      obtain ⟨hx, hb, hml, hr, hts, hown, hlk, hK, hAq, hnm, hNB⟩ := id hC
      rw [okS_cons, okS_cons, okS_cons] at hst
      have hq1 := q_pos hS0 hq
      have hat := wld_at (S := S) (cA := cA) (ad := ad) (h := h) hq1 hst.2.2.1
      rw [ent_arr hq (fun d => by simp)] at hat
      rw [List.map_cons, List.map_cons, List.map_cons, show cv ad (.inr (.inr q)) = .ref (ad q) from rv_pos hq1]
      refine va_zast hx hb hK hP hD hS (q - 1) 1 hat (tys_at rfl) (i32_in hst.2.1 h0 hi) hd (fun H1 locs1 hP1 hD1 hS1 => ?_)
      have e1 : (wld S cA ad h).set (q - 1) (ad q, .inl (cA .boolean, n, .inl (upd (fun k => Int32.ofInt (gi h q k)) (Int32.ofInt i).toNatClampNeg (vp_nar .boolean (Int32.ofInt v))))) = wld S cA ad (si h q i.toNat v) := by
        refine wld_set hq1 rfl ?_ (fun a ha => ent_si ha)
        rw [ent_arr hq (fun d => by simp)]
        congr 4
        funext j
        rw [i32_nat h0 hst.2.1]
        have ev : (vp_nar .boolean (Int32.ofInt v)) = Int32.ofInt v := (by rcases hv with rfl | rfl <;> rfl)
        simp only [upd, ev]
        by_cases hj : j = i.toNat
        · subst hj; simp [gi, si, up2]
        · simp [gi, si, up2, hj]
      rw [e1] at hP1 hD1
      exact hn _ _ _ _ _ hop p l e s m args below meth c D cA A H1 locs1 cells slots ad ad0 n0 lsc (CXhp X rfl hP1 hD1 hS1 (okH_si hH hst.1) hst.2.2.2)
    · exact hop.elim
  · exact hop.elim
theorem nar_char {v : Int} (h0 : 0 ≤ v) (h1 : v ≤ 65535) : vp_nar .char (Int32.ofInt v) = Int32.ofInt v := by
  show (Int32.ofInt v).toUInt32.toUInt16.toUInt32.toInt32 = Int32.ofInt v
  obtain ⟨n, rfl⟩ := Int.eq_ofNat_of_zero_le h0
  have hn : n < 65536 := by omega
  apply Int32.toBitVec_inj.mp
  show ((BitVec.ofInt 32 (n : Int)).setWidth 16).setWidth 32 = BitVec.ofInt 32 (n : Int)
  apply BitVec.eq_of_toNat_eq
  simp
  omega
def op_cald (S : Sys) : Op := fun next _ _ bc bs ls st h => match st with
  | .inl i :: .inr (.inr q) :: st => (match S q with
    | some (.inr (.char, n)) => 0 ≤ i ∧ i < n ∧ next bc bs ls (.inl (gi h q i.toNat) :: st) h
    | _ => False)
  | _ => False
theorem so_cald (hS0 : S 0 = none) (hd : decode mi.2.1 pc = .ok (.caload, 1)) : SO S mi pc (pc + 1) tg (op_cald S) := by
  intro next J Q bc bs ls st h hn hJ hop
  unfold op_cald at hop
  split at hop
  · rename_i i q st
    split at hop
    · rename_i n hq
      obtain ⟨h0, hi, hop⟩ := hop
      intro p l e s m args below meth c D cA A H locs cells slots ad ad0 n0 lsc X
      obtain ⟨hC, ⟨hP, hD, hH⟩, hS, hB, hA0, hL, hok, hst⟩ := id X
      obtain ⟨hx, hb, hml, hr, hts, hown, hlk, hK, hAq, hnm, hNB⟩ := id hC
      rw [okS_cons, okS_cons] at hst
      have hq1 := q_pos hS0 hq
      have hat := wld_at (S := S) (cA := cA) (ad := ad) (h := h) hq1 hst.2.1
      rw [ent_arr hq (fun d => by simp)] at hat
      rw [List.map_cons, List.map_cons, show cv ad (.inr (.inr q)) = .ref (ad q) from rv_pos hq1]
      refine va_cald hx hb hK hP (q - 1) 2 hat (tys_at rfl) (i32_in hst.1 h0 hi) hd ?_
      rw [i32_nat h0 hst.1]
      exact hn _ _ _ _ _ hop p l e s m args below meth c D cA A H locs cells slots ad ad0 n0 lsc (CXst X (okS_cons.mpr ⟨hH.1 q _, hst.2.2⟩))
    · exact hop.elim
  · exact hop.elim
def op_cast (S : Sys) : Op := fun next _ _ bc bs ls st h => match st with
  | .inl v :: .inl i :: .inr (.inr q) :: st => (match S q with
    | some (.inr (.char, n)) => 0 ≤ i ∧ i < n ∧ (0 ≤ v ∧ v ≤ 65535) ∧ next bc bs ls st (si h q i.toNat v)
    | _ => False)
  | _ => False
theorem so_cast (hS0 : S 0 = none) (hd : decode mi.2.1 pc = .ok (.castore, 1)) : SO S mi pc (pc + 1) tg (op_cast S) := by
  intro next J Q bc bs ls st h hn hJ hop
  unfold op_cast at hop
  split at hop
  · rename_i v i q st
    split at hop
    · rename_i n hq
      obtain ⟨h0, hi, hv, hop⟩ := hop
      intro p l e s m args below meth c D cA A H locs cells slots ad ad0 n0 lsc X
      obtain ⟨hC, ⟨hP, hD, hH⟩, hS, hB, hA0, hL, hok, hst⟩ := id X
      obtain ⟨hx, hb, hml, hr, hts, hown, hlk, hK, hAq, hnm, hNB⟩ := id hC
      rw [okS_cons, okS_cons, okS_cons] at hst
      have hq1 := q_pos hS0 hq
      have hat := wld_at (S := S) (cA := cA) (ad := ad) (h := h) hq1 hst.2.2.1
      rw [ent_arr hq (fun d => by simp)] at hat
      rw [List.map_cons, List.map_cons, List.map_cons, show cv ad (.inr (.inr q)) = .ref (ad q) from rv_pos hq1]
      refine va_cast hx hb hK hP hD hS (q - 1) 2 hat (tys_at rfl) (i32_in hst.2.1 h0 hi) hd (fun H1 locs1 hP1 hD1 hS1 => ?_)
      have e1 : (wld S cA ad h).set (q - 1) (ad q, .inl (cA .char, n, .inl (upd (fun k => Int32.ofInt (gi h q k)) (Int32.ofInt i).toNatClampNeg (vp_nar .char (Int32.ofInt v))))) = wld S cA ad (si h q i.toNat v) := by
        refine wld_set hq1 rfl ?_ (fun a ha => ent_si ha)
        rw [ent_arr hq (fun d => by simp)]
        congr 4
        funext j
        rw [i32_nat h0 hst.2.1]
        have ev : (vp_nar .char (Int32.ofInt v)) = Int32.ofInt v := (nar_char hv.1 hv.2)
        simp only [upd, ev]
        by_cases hj : j = i.toNat
        · subst hj; simp [gi, si, up2]
        · simp [gi, si, up2, hj]
      rw [e1] at hP1 hD1
      exact hn _ _ _ _ _ hop p l e s m args below meth c D cA A H1 locs1 cells slots ad ad0 n0 lsc (CXhp X rfl hP1 hD1 hS1 (okH_si hH hst.1) hst.2.2.2)
    · exact hop.elim
  · exact hop.elim
theorem ent_len (S : Sys) (cA : FieldType → ClassId) (ad : Nat → Nat) (h : AH) {q n : Nat} {ty : FieldType} (hq : S q = some (.inr (ty, n))) : ∃ x : vp_A, x.1 = n ∧ ent S cA ad h q = .inl (cA ty, x) := by
  unfold ent; rw [hq]
  cases ty <;> exact ⟨(n, _), rfl, rfl⟩
def op_alen (S : Sys) : Op := fun next _ _ bc bs ls st h => match st with
  | .inr (.inr q) :: st => (match S q with
    | some (.inr (ty, n)) => ty ∈ ATY ∧ n < 2147483648 ∧ next bc bs ls (.inl n :: st) h
    | _ => False)
  | _ => False
theorem so_alen (hS0 : S 0 = none) (hd : decode mi.2.1 pc = .ok (.arraylength, 1)) : SO S mi pc (pc + 1) tg (op_alen S) := by
  intro next J Q bc bs ls st h hn hJ hop
  unfold op_alen at hop
  split at hop
  · rename_i q st
    split at hop
    · rename_i ty n hq
      obtain ⟨hty, hn31, hop⟩ := hop
      intro p l e s m args below meth c D cA A H locs cells slots ad ad0 n0 lsc X
      obtain ⟨hC, ⟨hP, hD, hH⟩, hS, hB, hA0, hL, hok, hst⟩ := id X
      obtain ⟨hx, hb, hml, hr, hts, hown, hlk, hK, hAq, hnm, hNB⟩ := id hC
      rw [okS_cons] at hst
      have hq1 := q_pos hS0 hq
      have hat := wld_at (S := S) (cA := cA) (ad := ad) (h := h) hq1 hst.1
      obtain ⟨x, hx1, hx2⟩ := ent_len S cA ad h hq
      rw [hx2] at hat
      obtain ⟨t0, ht0⟩ := List.getElem?_of_mem hty
      rw [List.map_cons, show cv ad (.inr (.inr q)) = .ref (ad q) from rv_pos hq1]
      refine va_alen (v := Int32.ofInt n) hx hb hK hP (q - 1) t0 hat (tys_at ht0) (by rw [hx1]; rfl) hd ?_
      exact hn _ _ _ _ _ hop p l e s m args below meth c D cA A H locs cells slots ad ad0 n0 lsc (CXst X (okS_cons.mpr ⟨by show ok32 _; unfold ok32; omega, hst.2⟩))
    · exact hop.elim
  · exact hop.elim
def op_aald (S : Sys) : Op := fun next _ _ bc bs ls st h => match st with
  | .inl i :: .inr (.inr q) :: st => (match S q with
    | some (.inr (.object d, n)) => d = "SumsThatDiffer$Standing" ∧ 0 ≤ i ∧ i < n ∧ next bc bs ls (.inr (.inr (gr h q i.toNat)) :: st) h
    | _ => False)
  | _ => False
theorem so_aald (hS0 : S 0 = none) (hd : decode mi.2.1 pc = .ok (.aaload, 1)) : SO S mi pc (pc + 1) tg (op_aald S) := by
  intro next J Q bc bs ls st h hn hJ hop
  unfold op_aald at hop
  split at hop
  · rename_i i q st
    split at hop
    · rename_i d n hq
      obtain ⟨rfl, h0, hi, hop⟩ := hop
      intro p l e s m args below meth c D cA A H locs cells slots ad ad0 n0 lsc X
      obtain ⟨hC, ⟨hP, hD, hH⟩, hS, hB, hA0, hL, hok, hst⟩ := id X
      obtain ⟨hx, hb, hml, hr, hts, hown, hlk, hK, hAq, hnm, hNB⟩ := id hC
      rw [okS_cons, okS_cons] at hst
      have hq1 := q_pos hS0 hq
      have hat := wld_at (S := S) (cA := cA) (ad := ad) (h := h) hq1 hst.2.1
      rw [ent_arq hq] at hat
      rw [List.map_cons, List.map_cons, show cv ad (.inr (.inr q)) = .ref (ad q) from rv_pos hq1]
      refine va_aldq hx hb hK hP (q - 1) 3 hat (tys_at rfl) (i32_in hst.1 h0 hi) hd ?_
      rw [i32_nat h0 hst.1, rf_rq]
      exact hn _ _ _ _ _ hop p l e s m args below meth c D cA A H locs cells slots ad ad0 n0 lsc (CXst X (okS_cons.mpr ⟨hH.2.1 q _, hst.2.2⟩))
    · exact hop.elim
  · exact hop.elim
def op_aast (S : Sys) : Op := fun next _ _ bc bs ls st h => match st with
  | .inr (.inr v) :: .inl i :: .inr (.inr q) :: st => (match S q with
    | some (.inr (.object d, n)) => d = "SumsThatDiffer$Standing" ∧ 0 ≤ i ∧ i < n ∧ S v = some (.inl 7) ∧ next bc bs ls st (sr h q i.toNat v)
    | _ => False)
  | _ => False
theorem so_aast (hS0 : S 0 = none) (hd : decode mi.2.1 pc = .ok (.aastore, 1)) : SO S mi pc (pc + 1) tg (op_aast S) := by
  intro next J Q bc bs ls st h hn hJ hop
  unfold op_aast at hop
  split at hop
  · rename_i v i q st
    split at hop
    · rename_i d n hq
      obtain ⟨rfl, h0, hi, hv, hop⟩ := hop
      intro p l e s m args below meth c D cA A H locs cells slots ad ad0 n0 lsc X
      obtain ⟨hC, ⟨hP, hD, hH⟩, hS, hB, hA0, hL, hok, hst⟩ := id X
      obtain ⟨hx, hb, hml, hr, hts, hown, hlk, hK, hAq, hnm, hNB⟩ := id hC
      rw [okS_cons, okS_cons, okS_cons] at hst
      have hq1 := q_pos hS0 hq
      have hv1 := q_pos hS0 hv
      have hat := wld_at (S := S) (cA := cA) (ad := ad) (h := h) hq1 hst.2.2.1
      have hatv := wld_at (S := S) (cA := cA) (ad := ad) (h := h) hv1 hst.1
      rw [ent_arq hq] at hat
      rw [ent_obj hv] at hatv
      rw [List.map_cons, List.map_cons, List.map_cons, show cv ad (.inr (.inr q)) = .ref (ad q) from rv_pos hq1, show cv ad (.inr (.inr v)) = .ref (ad v) from rv_pos hv1]
      refine va_astq hx hb hK hP hD hS (q - 1) 3 (v - 1) 7 (r := (RX7, TX7, 6)) hat (tys_at rfl) hatv rfl (i32_in hst.2.1 h0 hi) hd (fun H1 locs1 hP1 hD1 hS1 => ?_)
      have e1 : (wld S cA ad h).set (q - 1) (ad q, .inl (cA (.object "SumsThatDiffer$Standing"), n, .inr (.inr (.inr (.inr (va_up (fun k => rq ad (gr h q k)) (Int32.ofInt i).toNatClampNeg (some (ad v)))))))) = wld S cA ad (sr h q i.toNat v) := by
        refine wld_set hq1 rfl ?_ (fun a ha => ent_sr ha)
        rw [ent_arq hq]
        congr 7
        funext j
        rw [i32_nat h0 hst.2.1]
        by_cases hj : j = i.toNat
        · subst hj
          have : v ≠ 0 := by omega
          simp [va_up, gr, sr, up2, rq, this]
        · simp [va_up, gr, sr, up2, hj]
      rw [e1] at hP1 hD1
      exact hn _ _ _ _ _ hop p l e s m args below meth c D cA A H1 locs1 cells slots ad ad0 n0 lsc (CXhp X rfl hP1 hD1 hS1 (okH_sr hH hst.1) hst.2.2.2)
    · exact hop.elim
  · exact hop.elim
/-- System.arraycopy between rows of ints -/
theorem ent_cpi {S : Sys} {cA : FieldType → ClassId} {ad : Nat → Nat} {h : AH} {s sp d dp n : Nat} {a : Nat} (hne : a ≠ d) : ent S cA ad (cpi h s sp d dp n) a = ent S cA ad h a :=
  ent_ext (fun j => by simp [gi, cpi, hne]) (fun j => rfl) (fun j => rfl) (fun j => rfl)
theorem okH_cpi {h : AH} {s sp d dp n : Nat} (hH : okH h) : okH (cpi h s sp d dp n) := by
  refine ⟨fun a j => ?_, hH.2.1, hH.2.2⟩
  simp only [gi, cpi]
  split
  · exact hH.1 s _
  · exact hH.1 a j
def catV : AV → Nat
  | .inr (.inl _) => 2
  | _ => 1
def catS : List AV → Nat
  | [] => 0
  | v :: st => catV v + catS st
theorem cat_cv {ad : Nat → Nat} {v : AV} : (cv ad v).category = catV v := by
  rcases v with x | x | x
  · rfl
  · rfl
  · simp only [cv, rv]; split <;> rfl
theorem cat_map {ad : Nat → Nat} {st : List AV} : ((st.map (cv ad)).map fun v => v.category).sum = catS st := by
  induction st with
  | nil => rfl
  | cons v st ih => simp only [List.map_cons, List.sum_cons, ih, cat_cv, catS]
def op_acopy (S : Sys) : Op := fun next _ _ bc bs ls st h => match st with
  | .inl n :: .inl dp :: .inr (.inr d) :: .inl sp :: .inr (.inr q) :: st => (match S q, S d with
    | some (.inr (.int, n0)), some (.inr (.int, n1)) => 0 ≤ n ∧ 0 ≤ sp ∧ 0 ≤ dp ∧ sp + n ≤ n0 ∧ dp + n ≤ n1 ∧ catS st ≤ 8 ∧ next bc bs ls st (cpi h q sp.toNat d dp.toNat n.toNat)
    | _, _ => False)
  | _ => False
theorem so_acopy {index : Nat} (hS0 : S 0 = none) (h1 : Cond.methodLink mi.1.cls index arraycopyName ∈ TB) (h2 : Cond.native arraycopyName ∈ TB) (h3 : Cond.static arraycopyName ∈ TB) (h4 : Cond.initialized "java/lang/System" ∈ TB) (hR : 1 ≤ mi.2.2.2.2.frames ∧ 8 + (nativeFrameWords "java/lang/System" "arraycopy" 5 + 11) ≤ mi.2.2.2.2.locals) (hd : decode mi.2.1 pc = .ok (.invokestatic index, 3)) : SO S mi pc (pc + 3) tg (op_acopy S) := by
  intro next J Q bc bs ls st h hn hJ hop
  unfold op_acopy at hop
  split at hop
  · rename_i n dp d sp q st
    split at hop
    · rename_i n0' n1' hq hdd
      obtain ⟨g1, g2, g3, g4, g5, g6, hop⟩ := hop
      intro p l e s m args below meth c D cA A H locs cells slots ad ad0 n0 lsc X
      obtain ⟨hC, ⟨hP, hD, hH⟩, hS, hB, hA0, hL, hok, hst⟩ := id X
      obtain ⟨hx, hb, hml, hr, hts, hown, hlk, hK, hAq, hnm, hNB⟩ := id hC
      simp only [okS_cons] at hst
      obtain ⟨k1, k2, k3, k4, k5, hst⟩ := hst
      have hq1 := q_pos hS0 hq
      have hd1 := q_pos hS0 hdd
      have hat := wld_at (S := S) (cA := cA) (ad := ad) (h := h) hq1 k5
      have hatd := wld_at (S := S) (cA := cA) (ad := ad) (h := h) hd1 k3
      rw [ent_arr hq (fun d => by simp)] at hat
      rw [ent_arr hdd (fun d => by simp)] at hatd
      simp only [List.map_cons]
      rw [show cv ad (.inr (.inr q)) = .ref (ad q) from rv_pos hq1, show cv ad (.inr (.inr d)) = .ref (ad d) from rv_pos hd1]
      have nn : ∀ {z : Int}, 0 ≤ z → ok32 z → ¬ Int32.ofInt z < 0 := fun {z} hz hk q => by
        have := (i32_lt hk ok32_0).mp (by rw [i32_zero]; exact q)
        omega
      refine va_copyi hx hb (hml.trans hL.1.symm) hown (tb_use hts h1) (tb_use hts h2) (tb_use hts h3) (tb_use hts h4) hK hP hD hS (q - 1) (d - 1) 0 0 hat hatd (tys_at rfl) (tys_at rfl) rfl (nn g2 k4) (nn g3 k2) (nn g1 k1) (by rw [i32_nat g2 k4, i32_nat g1 k1]; omega) (by rw [i32_nat g3 k2, i32_nat g1 k1]; omega) (fun _ _ => rfl) hR.1 (by rw [cat_map]; have := hR.2; omega) hd (fun H1 locs1 hP1 hD1 hS1 => ?_)
      rw [i32_nat g2 k4, i32_nat g3 k2, i32_nat g1 k1] at hP1 hD1
      have e1 : (wld S cA ad h).set (d - 1) (ad d, .inl (cA .int, n1', .inl (va_cpy (fun k => Int32.ofInt (gi h q k)) (fun k => Int32.ofInt (gi h d k)) sp.toNat dp.toNat n.toNat))) = wld S cA ad (cpi h q sp.toNat d dp.toNat n.toNat) := by
        refine wld_set hd1 rfl ?_ (fun a ha => ent_cpi ha)
        rw [ent_arr hdd (fun d => by simp)]
        congr 4
        funext j
        simp only [va_cpy, gi, cpi, true_and]
        split <;> rfl
      rw [e1] at hP1 hD1
      exact hn _ _ _ _ _ hop p l e s m args below meth c D cA A H1 locs1 cells slots ad ad0 n0 lsc (CXhp X rfl hP1 hD1 hS1 (okH_cpi hH) hst)
    · exact hop.elim
  · exact hop.elim
def op_max : Op := fun next _ _ bc bs ls st h => match st with
  | .inl b :: .inl a :: st => catS st ≤ 8 ∧ next bc bs ls (.inl (if a < b then b else a) :: st) h
  | _ => False
theorem so_max {index : Nat} (h1 : Cond.methodLink mi.1.cls index Lib.Math.max.name ∈ TB) (h3 : Cond.static Lib.Math.max.name ∈ TB) (h4 : Cond.initialized "java/lang/Math" ∈ TB) (h5 : Cond.code Lib.Math.max.name Lib.Math.max.code 2 (some .int) ∈ TB) (hR : 1 ≤ mi.2.2.2.2.frames ∧ 21 ≤ mi.2.2.2.2.locals) (hd : decode mi.2.1 pc = .ok (.invokestatic index, 3)) : SO S mi pc (pc + 3) tg op_max := by
  intro next J Q bc bs ls st h hn hJ hop
  unfold op_max at hop
  split at hop
  · rename_i b a st
    obtain ⟨g1, hop⟩ := hop
    intro p l e s m args below meth c D cA A H locs cells slots ad ad0 n0 lsc X
    obtain ⟨hC, ⟨hP, hD, hH⟩, hS, hB, hA0, hL, hok, hst⟩ := id X
    obtain ⟨hx, hb, hml, hr, hts, hown, hlk, hK, hAq, hnm, hNB⟩ := id hC
    rw [okS_cons, okS_cons] at hst
    refine va_mmax hx hb (hml.trans hL.1.symm) hown (tb_use hts h1) (tb_use hts h3) (tb_use hts h4) (tb_use hts h5) hR.1 (by rw [cat_map]; have := hR.2; omega) (by omega) (by omega) hd ?_
    have e1 : (if Int32.ofInt a < Int32.ofInt b then Int32.ofInt b else Int32.ofInt a) = Int32.ofInt (if a < b then b else a) := by
      simp only [i32_lt hst.2.1 hst.1, i32_lt hst.1 hst.2.1]
      split <;> rfl
    rw [e1]
    exact hn _ _ _ _ _ hop p l e s m args below meth c D cA A H locs cells slots ad ad0 n0 lsc (CXst X (okS_cons.mpr ⟨by show ok32 _; split; exact hst.1; exact hst.2.1, hst.2.2⟩))
  · exact hop.elim
def op_min : Op := fun next _ _ bc bs ls st h => match st with
  | .inl b :: .inl a :: st => catS st ≤ 8 ∧ next bc bs ls (.inl (if b < a then b else a) :: st) h
  | _ => False
theorem so_min {index : Nat} (h1 : Cond.methodLink mi.1.cls index Lib.Math.min.name ∈ TB) (h3 : Cond.static Lib.Math.min.name ∈ TB) (h4 : Cond.initialized "java/lang/Math" ∈ TB) (h5 : Cond.code Lib.Math.min.name Lib.Math.min.code 2 (some .int) ∈ TB) (hR : 1 ≤ mi.2.2.2.2.frames ∧ 21 ≤ mi.2.2.2.2.locals) (hd : decode mi.2.1 pc = .ok (.invokestatic index, 3)) : SO S mi pc (pc + 3) tg op_min := by
  intro next J Q bc bs ls st h hn hJ hop
  unfold op_min at hop
  split at hop
  · rename_i b a st
    obtain ⟨g1, hop⟩ := hop
    intro p l e s m args below meth c D cA A H locs cells slots ad ad0 n0 lsc X
    obtain ⟨hC, ⟨hP, hD, hH⟩, hS, hB, hA0, hL, hok, hst⟩ := id X
    obtain ⟨hx, hb, hml, hr, hts, hown, hlk, hK, hAq, hnm, hNB⟩ := id hC
    rw [okS_cons, okS_cons] at hst
    refine va_mmin hx hb (hml.trans hL.1.symm) hown (tb_use hts h1) (tb_use hts h3) (tb_use hts h4) (tb_use hts h5) hR.1 (by rw [cat_map]; have := hR.2; omega) (by omega) (by omega) hd ?_
    have e1 : (if Int32.ofInt b < Int32.ofInt a then Int32.ofInt b else Int32.ofInt a) = Int32.ofInt (if b < a then b else a) := by
      simp only [i32_lt hst.2.1 hst.1, i32_lt hst.1 hst.2.1]
      split <;> rfl
    rw [e1]
    exact hn _ _ _ _ _ hop p l e s m args below meth c D cA A H locs cells slots ad ad0 n0 lsc (CXst X (okS_cons.mpr ⟨by show ok32 _; split; exact hst.1; exact hst.2.1, hst.2.2⟩))
  · exact hop.elim
def op_oinit : Op := fun next _ _ bc bs ls st h => match st with
  | .inr (.inr q) :: st => 1 ≤ q ∧ catS st ≤ 8 ∧ next bc bs ls st h
  | _ => False
theorem so_oinit {index : Nat} (h1 : Cond.methodLink mi.1.cls index Lib.objectInit ∈ TB) (h2 : Cond.instanceMethod Lib.objectInit ∈ TB) (h3 : Cond.code Lib.objectInit ⟨#[0xb1]⟩ 1 none ∈ TB) (hR : 1 ≤ mi.2.2.2.2.frames ∧ 20 ≤ mi.2.2.2.2.locals) (hd : decode mi.2.1 pc = .ok (.invokespecial index, 3)) : SO S mi pc (pc + 3) tg op_oinit := by
  intro next J Q bc bs ls st h hn hJ hop
  unfold op_oinit at hop
  split at hop
  · rename_i q st
    obtain ⟨g1, g2, hop⟩ := hop
    intro p l e s m args below meth c D cA A H locs cells slots ad ad0 n0 lsc X
    obtain ⟨hC, ⟨hP, hD, hH⟩, hS, hB, hA0, hL, hok, hst⟩ := id X
    obtain ⟨hx, hb, hml, hr, hts, hown, hlk, hK, hAq, hnm, hNB⟩ := id hC
    rw [okS_cons] at hst
    rw [List.map_cons, show cv ad (.inr (.inr q)) = .ref (ad q) from rv_pos g1]
    refine W.objInit hx hb hown (tb_use hts h1) (tb_use hts h2) (tb_use hts h3) rfl (hL.1.trans hml.symm) rfl hd hR.1 (by rw [cat_map]; have := hR.2; show 2 * 0 + _ + 12 ≤ _; omega) ?_
    exact hn _ _ _ _ _ hop p l e s m args below meth c D cA A H locs cells slots ad ad0 n0 lsc (CXst X hst.2)
  · exact hop.elim
end HOPS
