/-! NEW CELLS, CALLS, RETURNS; the predicate of blocks; contracts -/
def ad1 (ad : Nat → Nat) (n q : Nat) : Nat → Nat := fun i => if i = n then q else ad i
theorem rv_ad {ad ad' : Nat → Nat} {n q : Nat} (h : ∀ i, i ≤ n → ad' i = ad i) (hq : q ≤ n) : rv ad' q = rv ad q := by unfold rv; rw [h q hq]
theorem rq_ad {ad ad' : Nat → Nat} {n q : Nat} (h : ∀ i, i ≤ n → ad' i = ad i) (hq : q ≤ n) : rq ad' q = rq ad q := by unfold rq; rw [h q hq]
theorem cv_ad {ad ad' : Nat → Nat} {n : Nat} (h : ∀ i, i ≤ n → ad' i = ad i) {v : AV} (hv : okV n v) : cv ad' v = cv ad v := by
  rcases v with x | x | x
  · rfl
  · rfl
  · exact rv_ad h hv
theorem map_ad {ad ad' : Nat → Nat} {n : Nat} (h : ∀ i, i ≤ n → ad' i = ad i) {st : List AV} (hst : okS n st) : st.map (cv ad') = st.map (cv ad) := List.map_congr_left fun v hv => cv_ad h (hst v hv)
theorem LR_ad {ad ad' : Nat → Nat} {n : Nat} (h : ∀ i, i ≤ n → ad' i = ad i) {lsc : Array Slot} {L : Nat} {ls : LC} (hk : okLs n ls) (hL : LR ad lsc L ls) : LR ad' lsc L ls :=
  ⟨hL.1, hL.2.1, fun i v hv => by rw [cv_ad h (hk i v hv)]; exact hL.2.2 i v hv⟩
theorem okV_le {n n' : Nat} (h : n ≤ n') {v : AV} (hv : okV n v) : okV n' v := by
  rcases v with x | x | x
  · exact hv
  · exact hv
  · exact Nat.le_trans hv h
theorem okS_le {n n' : Nat} (h : n ≤ n') {st : List AV} (hv : okS n st) : okS n' st := fun v hm => okV_le h (hv v hm)
theorem okLs_le {n n' : Nat} (h : n ≤ n') {ls : LC} (hv : okLs n ls) : okLs n' ls := fun i v hm => okV_le h (hv i v hm)
theorem wld_ad {S : Sys} {cA : FieldType → ClassId} {ad ad' : Nat → Nat} {h : AH} (hH : okH h) (ha : ∀ i, i ≤ cn h → ad' i = ad i) : wld S cA ad' h = wld S cA ad h := by
  unfold wld
  apply List.map_congr_left
  intro i hi
  have hi' := List.mem_range.mp hi
  rw [ha (i + 1) (by omega), ent_ext (fun k => rfl) (fun k => rv_ad ha (hH.2.1 _ k)) (fun k => rfl) (fun k => rq_ad ha (hH.2.1 _ k))]
theorem cn_nwo (h : AH) : cn (nwo h) = cn h + 1 := rfl
theorem okH_nwo {h : AH} (hH : okH h) : okH (nwo h) := by
  refine ⟨fun a j => ?_, fun a j => ?_, fun a j => ?_⟩
  · simp only [gi, nwo]; split
    · exact ok32_0
    · exact hH.1 a j
  · simp only [gr, nwo]; split
    · exact Nat.zero_le _
    · exact Nat.le_succ_of_le (hH.2.1 a j)
  · simp only [gl, nwo]; split
    · exact ok64_0
    · exact hH.2.2 a j
theorem wld_nwo {S : Sys} {cA : FieldType → ClassId} {ad : Nat → Nat} {h : AH} {q : Nat} (hH : okH h) : wld S cA (ad1 ad (cn h + 1) q) (nwo h) = wld S cA ad h ++ [(q, ent S cA (ad1 ad (cn h + 1) q) (nwo h) (cn h + 1))] := by
  have ha : ∀ i, i ≤ cn h → ad1 ad (cn h + 1) q i = ad i := fun i hi => by unfold ad1; rw [if_neg (by omega)]
  unfold wld
  rw [cn_nwo, List.range_succ, List.map_append]
  congr 1
  · apply List.map_congr_left
    intro i hi
    have hi' := List.mem_range.mp hi
    have hne : ¬ (i + 1 = h.1 + 1) := by show ¬ (i + 1 = cn h + 1); omega
    have e1 : ∀ k, gi (nwo h) (i + 1) k = gi h (i + 1) k := fun k => by simp only [gi, nwo]; rw [if_neg hne]
    have e2 : ∀ k, gr (nwo h) (i + 1) k = gr h (i + 1) k := fun k => by simp only [gr, nwo]; rw [if_neg hne]
    have e3 : ∀ k, gl (nwo h) (i + 1) k = gl h (i + 1) k := fun k => by simp only [gl, nwo]; rw [if_neg hne]
    rw [ha (i + 1) (by omega), ent_ext (S := S) (cA := cA) (ad := ad) (ad' := ad1 ad (cn h + 1) q) (h := h) (h' := nwo h) (a := i + 1) e1 (fun k => (congrArg (rv (ad1 ad (cn h + 1) q)) (e2 k)).trans (rv_ad ha (hH.2.1 _ k))) e3 (fun k => (congrArg (rq (ad1 ad (cn h + 1) q)) (e2 k)).trans (rq_ad ha (hH.2.1 _ k)))]
  · simp [ad1]
theorem gi_nwo (h : AH) (k : Nat) : gi (nwo h) (cn h + 1) k = 0 := by simp [gi, nwo, cn]
theorem gr_nwo (h : AH) (k : Nat) : gr (nwo h) (cn h + 1) k = 0 := by simp [gr, nwo, cn]
theorem gl_nwo (h : AH) (k : Nat) : gl (nwo h) (cn h + 1) k = 0 := by simp [gl, nwo, cn]
theorem fv_nwo (ad : Nat → Nat) (h : AH) (k : Nat) (ty : FieldType) (hty : ty ≠ .float ∧ ty ≠ .double) : fv ad (nwo h) (cn h + 1) k ty = defaultValue ty := by
  unfold fv
  cases ty <;> first | (rw [gl_nwo]; rfl) | (rw [gi_nwo]; rfl) | (rw [gr_nwo]; rfl) | exact absurd rfl hty.1 | exact absurd rfl hty.2
section COPS
variable {S : Sys} {mi : MI} {pc : Nat} {tg : Nat → Nat}
theorem CXnew {S : Sys} {mi : MI} {bc bs : Nat} {p : Program} {s : State} {m : MethodId} {args : Array Value} {meth : Method} {c : Code} {D : va_G} {cA : FieldType → ClassId} {A : Nat → Prop} {H H1 : Heap} {locs : List Loc} {cells slots : Nat} {ad ad0 : Nat → Nat} {n0 : Nat} {lsc : Array Slot} {ls : LC} {st : List AV} {h : AH} {q N : Nat}
    (X : CX S mi bc bs p s m args meth c D cA A H locs cells slots ad ad0 n0 lsc ls st h) (hbc : 1 ≤ bc) (hbs : N ≤ bs) (hP : va_P D vwCl (wld S cA (ad1 ad (cn h + 1) q) (nwo h)) H1) (hD : va_D A (wld S cA (ad1 ad (cn h + 1) q) (nwo h))) (hS : va_S A s.heap H1 locs) {st' : List AV} (hst' : okS (cn h + 1) st') :
    CX S mi (bc - 1) (bs - N) p s m args meth c D cA A H1 locs (cells + 1) (slots + N) (ad1 ad (cn h + 1) q) ad0 n0 lsc ls st' (nwo h) := by
  obtain ⟨hC, ⟨-, -, hH⟩, -, hB, hA0, hL, hok, hst⟩ := X
  have ha : ∀ i, i ≤ cn h → ad1 ad (cn h + 1) q i = ad i := fun i hi => by unfold ad1; rw [if_neg (by omega)]
  exact ⟨hC, ⟨hP, hD, okH_nwo hH⟩, hS, ⟨by omega, by omega⟩, ⟨fun i hi => (ha i (Nat.le_trans hi hA0.2)).trans (hA0.1 i hi), Nat.le_trans hA0.2 (by rw [cn_nwo]; omega)⟩, LR_ad ha hok hL, okLs_le (by rw [cn_nwo]; omega) hok, hst'⟩
def op_new (S : Sys) (ci N : Nat) : Op := fun next _ _ bc bs ls st h => S (cn h + 1) = some (.inl ci) ∧ 1 ≤ bc ∧ N ≤ bs ∧ next (bc - 1) (bs - N) ls (.inr (.inr (cn h + 1)) :: st) (nwo h)
theorem so_new {ci N index : Nat} {C : String} {T : u_T} (hCF : CF ci C T N) (hfd : ∀ k, k < N → FT ci k ≠ .float ∧ FT ci k ≠ .double) (h1 : Cond.classLink mi.1.cls index C ∈ TB) (h2 : Cond.instantiable C N ∈ TB) (h3 : Cond.initialized C ∈ TB) (hd : decode mi.2.1 pc = .ok (.new index, 3)) : SO S mi pc (pc + 3) tg (op_new S ci N) := by
  intro next J Q bc bs ls st h hn hJ hop
  obtain ⟨hq, hbc, hbs, hop⟩ := hop
  intro p l e s m args below meth c D cA A H locs cells slots ad ad0 n0 lsc X
  obtain ⟨hC, ⟨hP, hD, hH⟩, hS, hB, hA0, hL, hok, hst⟩ := id X
  obtain ⟨hx, hb, hml, hr, hts, hown, hlk, hK, hAq, hnm, hNB⟩ := id hC
  refine va_new (fs := (List.range N).map (fun k => fv ad (nwo h) (cn h + 1) k (FT ci k))) hx hb (fun w hw => tb_use hts hw) hCF.2.1 (FT ci) hCF.2.2.1 hown (tb_use hts h1) (tb_use hts h2) (tb_use hts h3) hK hP hD hS hAq hCF.1 (fun j hj => ?_) (by omega) (by omega) hd (fun q H1 hP1 hD1 hS1 => ?_)
  · unfold vp_V
    rw [List.getD_eq_getElem?_getD, fs_at hj]
    exact (fv_nwo ad h j _ (hfd j hj)).symm
  · have ha : ∀ i, i ≤ cn h → ad1 ad (cn h + 1) q i = ad i := fun i hi => by unfold ad1; rw [if_neg (by omega)]
    have e1 : wld S cA ad h ++ [(q, .inr (ci, (List.range N).map (fun k => fv ad (nwo h) (cn h + 1) k (FT ci k))))] = wld S cA (ad1 ad (cn h + 1) q) (nwo h) := by
      rw [wld_nwo hH, ent_obj hq, hCF.nf]
      congr 5
      apply List.map_congr_left
      intro k hk
      have hk' := hfd k (List.mem_range.mp hk)
      rw [fv_nwo _ _ _ _ hk', fv_nwo _ _ _ _ hk']
    rw [e1] at hP1 hD1
    have hq1 : 1 ≤ cn h + 1 := by omega
    have := hn _ _ _ _ _ hop p l e s m args below meth c D cA A H1 locs (cells + 1) (slots + N) (ad1 ad (cn h + 1) q) ad0 n0 lsc (CXnew X hbc hbs hP1 hD1 hS1 (okS_cons.mpr ⟨Nat.le_refl _, okS_le (by omega) hst⟩))
    rw [List.map_cons, map_ad ha hst, show cv (ad1 ad (cn h + 1) q) (.inr (.inr (cn h + 1))) = .ref q by simp [cv, rv, ad1]] at this
    exact this
def op_newa (S : Sys) (ty : FieldType) : Op := fun next _ _ bc bs ls st h => match st with
  | .inl n :: st => 0 ≤ n ∧ n ≤ 100000 ∧ S (cn h + 1) = some (.inr (ty, n.toNat)) ∧ 1 ≤ bc ∧ n.toNat ≤ bs ∧ next (bc - 1) (bs - n.toNat) ls (.inr (.inr (cn h + 1)) :: st) (nwo h)
  | _ => False
theorem so_newa {atype : ArrayType} {ty : FieldType} (hty : newarray.typeOf atype = ty) (hint : ty = .int ∨ ty = .boolean ∨ ty = .char) (h1 : Cond.arrayClass ty ∈ TB) (hd : decode mi.2.1 pc = .ok (.newarray atype, 2)) : SO S mi pc (pc + 2) tg (op_newa S ty) := by
  intro next J Q bc bs ls st h hn hJ hop
  unfold op_newa at hop
  split at hop
  · rename_i n st
    obtain ⟨hn0, hn1, hq, hbc, hbs, hop⟩ := hop
    intro p l e s m args below meth c D cA A H locs cells slots ad ad0 n0 lsc X
    obtain ⟨hC, ⟨hP, hD, hH⟩, hS, hB, hA0, hL, hok, hst⟩ := id X
    obtain ⟨hx, hb, hml, hr, hts, hown, hlk, hK, hAq, hnm, hNB⟩ := id hC
    rw [okS_cons] at hst
    have hnc : (Int32.ofInt n).toNatClampNeg = n.toNat := i32_nat hn0 hst.1
    obtain ⟨t0, ht0⟩ : ∃ t0, ATY[t0]? = some ty := by rcases hint with rfl | rfl | rfl; exact ⟨0, rfl⟩; exact ⟨1, rfl⟩; exact ⟨2, rfl⟩
    have hno : ∀ d, ty ≠ .object d := fun d q => by rcases hint with rfl | rfl | rfl <;> cases q
    refine va_newa (a0 := (n.toNat, .inl (fun k => Int32.ofInt (gi (nwo h) (cn h + 1) k)))) hx hb (by rw [hty]; exact tb_use hts h1) hty hK hP hD hS hAq (fun cA' => ?_) ?_ hnc ?_ (by omega) (by omega) hd (fun q cA' H1 hK1 hP1 hD1 hS1 => ?_)
    · rw [vp_cell_i]
      congr 1
      funext k
      rw [gi_nwo]
      rcases hint with rfl | rfl | rfl <;> rfl
    · intro q
      have := (i32_lt hst.1 ok32_0).mp (by rw [i32_zero]; exact q)
      omega
    · have : componentBytes ty ≤ 4 := by rcases hint with rfl | rfl | rfl <;> decide
      have h2 : n.toNat * componentBytes ty ≤ n.toNat * 4 := Nat.mul_le_mul_left _ this
      omega
    · have ha : ∀ i, i ≤ cn h → ad1 ad (cn h + 1) q i = ad i := fun i hi => by unfold ad1; rw [if_neg (by omega)]
      have hcA : cA' = cA ty := by
        have g1 := (hK1.2 (TYS cA).length (cA', ty) (by simp)).2
        have g2 := (hK.2 t0 _ (tys_at ht0)).2
        rcases hint with rfl | rfl | rfl <;> exact Option.some.inj (g1.symm.trans g2)
      subst hcA
      have e1 : wld S cA ad h ++ [(q, .inl (cA ty, n.toNat, .inl (fun k => Int32.ofInt (gi (nwo h) (cn h + 1) k))))] = wld S cA (ad1 ad (cn h + 1) q) (nwo h) := by
        rw [wld_nwo hH, ent_arr hq hno]
      rw [e1] at hP1 hD1
      have := hn _ _ _ _ _ hop p l e s m args below meth c D cA A H1 locs (cells + 1) (slots + n.toNat) (ad1 ad (cn h + 1) q) ad0 n0 lsc (CXnew X hbc hbs hP1 hD1 hS1 (okS_cons.mpr ⟨Nat.le_refl _, okS_le (by omega) hst.2⟩))
      rw [List.map_cons, map_ad ha hst.2, show cv (ad1 ad (cn h + 1) q) (.inr (.inr (cn h + 1))) = .ref q by simp [cv, rv, ad1]] at this
      exact this
  · exact hop.elim
def op_newq (S : Sys) : Op := fun next _ _ bc bs ls st h => match st with
  | .inl n :: st => 0 ≤ n ∧ n ≤ 100000 ∧ S (cn h + 1) = some (.inr (.object "SumsThatDiffer$Standing", n.toNat)) ∧ 1 ≤ bc ∧ n.toNat ≤ bs ∧ next (bc - 1) (bs - n.toNat) ls (.inr (.inr (cn h + 1)) :: st) (nwo h)
  | _ => False
theorem so_newq {index : Nat} (h1 : Cond.classLink mi.1.cls index "SumsThatDiffer$Standing" ∈ TB) (hd : decode mi.2.1 pc = .ok (.anewarray index, 3)) : SO S mi pc (pc + 3) tg (op_newq S) := by
  intro next J Q bc bs ls st h hn hJ hop
  unfold op_newq at hop
  split at hop
  · rename_i n st
    obtain ⟨hn0, hn1, hq, hbc, hbs, hop⟩ := hop
    intro p l e s m args below meth c D cA A H locs cells slots ad ad0 n0 lsc X
    obtain ⟨hC, ⟨hP, hD, hH⟩, hS, hB, hA0, hL, hok, hst⟩ := id X
    obtain ⟨hx, hb, hml, hr, hts, hown, hlk, hK, hAq, hnm, hNB⟩ := id hC
    rw [okS_cons] at hst
    have hnc : (Int32.ofInt n).toNatClampNeg = n.toNat := i32_nat hn0 hst.1
    refine va_newq hx hb hown (tb_use hts h1) hNB.1.2 hK hP hD hS hAq ?_ hnc (by omega) (by omega) (by omega) hd (fun q cA' H1 hK1 hP1 hD1 hS1 => ?_)
    · intro q
      have := (i32_lt hst.1 ok32_0).mp (by rw [i32_zero]; exact q)
      omega
    · have ha : ∀ i, i ≤ cn h → ad1 ad (cn h + 1) q i = ad i := fun i hi => by unfold ad1; rw [if_neg (by omega)]
      have hcA : cA' = cA (.object "SumsThatDiffer$Standing") := by
        obtain ⟨_, _, _, _, _, g1⟩ := (hK1.2 (TYS cA).length (cA', .object "SumsThatDiffer$Standing") (by simp)).2
        obtain ⟨_, _, _, _, _, g2⟩ := (hK.2 3 (cA (.object "SumsThatDiffer$Standing"), .object "SumsThatDiffer$Standing") (tys_at rfl)).2
        exact Option.some.inj (g1.symm.trans g2)
      subst hcA
      have e1 : wld S cA ad h ++ [(q, .inl (cA (.object "SumsThatDiffer$Standing"), n.toNat, .inr (.inr (.inr (.inr (fun _ => none))))))] = wld S cA (ad1 ad (cn h + 1) q) (nwo h) := by
        rw [wld_nwo hH, ent_arq hq]
        have e0 : (fun k => rq (ad1 ad (cn h + 1) q) (gr (nwo h) (cn h + 1) k)) = (fun _ : Nat => (none : Option Nat)) := by
          funext k
          rw [gr_nwo]
          rfl
        rw [e0]
      rw [e1] at hP1 hD1
      have := hn _ _ _ _ _ hop p l e s m args below meth c D cA A H1 locs (cells + 1) (slots + n.toNat) (ad1 ad (cn h + 1) q) ad0 n0 lsc (CXnew X hbc hbs hP1 hD1 hS1 (okS_cons.mpr ⟨Nat.le_refl _, okS_le (by omega) hst.2⟩))
      rw [List.map_cons, map_ad ha hst.2, show cv (ad1 ad (cn h + 1) q) (.inr (.inr (cn h + 1))) = .ref q by simp [cv, rv, ad1]] at this
      exact this
  · exact hop.elim
def op_ret : Op := fun _ _ Q bc bs ls st h => match st with
  | [] => Q none h
  | _ => False
theorem so_ret {pc' : Nat} (hrt : mi.2.2.2.1 = none) (hd : decode mi.2.1 pc = .ok (.return_, 1)) : SO S mi pc pc' tg op_ret := by
  intro next J Q bc bs ls st h hn hJ hop
  unfold op_ret at hop
  split at hop
  · intro p l e s m args below meth c D cA A H locs cells slots ad ad0 n0 lsc X
    obtain ⟨hC, ⟨hP, hD, hH⟩, hS, hB, hA0, hL, hok, hst⟩ := id X
    obtain ⟨hx, hb, hml, hr, hts, hown, hlk, hK, hAq, hnm, hNB⟩ := id hC
    refine W.widen (k := mi.2.2.2.2.cells) (n := mi.2.2.2.2.slots) (by omega) (by omega) ?_
    exact W.vret hx hb (hr.trans hrt) (fun t ht hW => ⟨⟨none, h, ad, hA0.1, hA0.2, rfl, hop, hst, hH, by rw [ht]; exact hP, hD, va_K.moved hW.alike hK⟩, hS.F ht⟩) hS.2.2 hd
  · exact hop.elim
def op_iret : Op := fun _ _ Q bc bs ls st h => match st with
  | [.inl v] => Q (some (.inl v)) h
  | _ => False
theorem so_iret {pc' : Nat} (hrt : mi.2.2.2.1 = some .int) (hd : decode mi.2.1 pc = .ok (.ireturn, 1)) : SO S mi pc pc' tg op_iret := by
  intro next J Q bc bs ls st h hn hJ hop
  unfold op_iret at hop
  split at hop
  · rename_i v
    intro p l e s m args below meth c D cA A H locs cells slots ad ad0 n0 lsc X
    obtain ⟨hC, ⟨hP, hD, hH⟩, hS, hB, hA0, hL, hok, hst⟩ := id X
    obtain ⟨hx, hb, hml, hr, hts, hown, hlk, hK, hAq, hnm, hNB⟩ := id hC
    refine W.widen (k := mi.2.2.2.2.cells) (n := mi.2.2.2.2.slots) (by omega) (by omega) ?_
    exact W.iret hx hb (hr.trans hrt) (fun t ht hW => ⟨⟨(some (.inl v)), h, ad, hA0.1, hA0.2, rfl, hop, hst, hH, by rw [ht]; exact hP, hD, va_K.moved hW.alike hK⟩, hS.F ht⟩) hS.2.2 hd
  · exact hop.elim
def op_zret : Op := fun _ _ Q bc bs ls st h => match st with
  | [.inl v] => (v = 0 ∨ v = 1) ∧ Q (some (.inl v)) h
  | _ => False
theorem so_zret {pc' : Nat} (hrt : mi.2.2.2.1 = some .boolean) (hd : decode mi.2.1 pc = .ok (.ireturn, 1)) : SO S mi pc pc' tg op_zret := by
  intro next J Q bc bs ls st h hn hJ hop
  unfold op_zret at hop
  split at hop
  · rename_i v
    obtain ⟨hv, hop⟩ := hop
    intro p l e s m args below meth c D cA A H locs cells slots ad ad0 n0 lsc X
    obtain ⟨hC, ⟨hP, hD, hH⟩, hS, hB, hA0, hL, hok, hst⟩ := id X
    obtain ⟨hx, hb, hml, hr, hts, hown, hlk, hK, hAq, hnm, hNB⟩ := id hC
    refine W.widen (k := mi.2.2.2.2.cells) (n := mi.2.2.2.2.slots) (by omega) (by omega) ?_
    exact W.zret hx hb (hr.trans hrt) (by rcases hv with rfl | rfl <;> rfl) (fun t ht hW => ⟨⟨(some (.inl v)), h, ad, hA0.1, hA0.2, rfl, hop, hst, hH, by rw [ht]; exact hP, hD, va_K.moved hW.alike hK⟩, hS.F ht⟩) hS.2.2 hd
  · exact hop.elim
def op_lret : Op := fun _ _ Q bc bs ls st h => match st with
  | [.inr (.inl v)] => Q (some (.inr (.inl v))) h
  | _ => False
theorem so_lret {pc' : Nat} (hrt : mi.2.2.2.1 = some .long) (hd : decode mi.2.1 pc = .ok (.lreturn, 1)) : SO S mi pc pc' tg op_lret := by
  intro next J Q bc bs ls st h hn hJ hop
  unfold op_lret at hop
  split at hop
  · rename_i v
    intro p l e s m args below meth c D cA A H locs cells slots ad ad0 n0 lsc X
    obtain ⟨hC, ⟨hP, hD, hH⟩, hS, hB, hA0, hL, hok, hst⟩ := id X
    obtain ⟨hx, hb, hml, hr, hts, hown, hlk, hK, hAq, hnm, hNB⟩ := id hC
    refine W.widen (k := mi.2.2.2.2.cells) (n := mi.2.2.2.2.slots) (by omega) (by omega) ?_
    exact W.lret hx hb (hr.trans hrt) (fun t ht hW => ⟨⟨(some (.inr (.inl v))), h, ad, hA0.1, hA0.2, rfl, hop, hst, hH, by rw [ht]; exact hP, hD, va_K.moved hW.alike hK⟩, hS.F ht⟩) hS.2.2 hd
  · exact hop.elim
theorem pc_blind {S : Sys} {D : va_G} {cA : FieldType → ClassId} {ad : Nat → Nat} {h : AH} {sz : Nat} {vs : List Value} : FrameBlind (va_Pc vs (fun U => U.heap.size = sz ∧ va_P D vwCl (wld S cA ad h) U.heap ∧ va_K D vwCl (TYS cA) U ∧ va_D (fun _ => True) (wld S cA ad h) ∧ NBK U ∧ XS (va_A (wld S cA ad h) sz) U U.heap)) :=
  fun a U g mk q => ⟨q.1, q.2.1, q.2.2.1, va_K.moved (u := U) (U := U.calling g mk a) (Vm.Alike.refl U.vm) q.2.2.2.1, q.2.2.2.2.1, NBK.same (s := U) (U := U.calling g mk a) rfl q.2.2.2.2.2.1, XS.same (s := U) (U := U.calling g mk a) rfl rfl q.2.2.2.2.2.2⟩
theorem va_A_in {S : Sys} {cA : FieldType → ClassId} {ad : Nat → Nat} {h : AH} {A : Nat → Prop} {n0 n1 : Nat} (hD : va_D A (wld S cA ad h)) (hAq : ∀ q, n0 ≤ q → A q) (hs : n0 ≤ n1) : ∀ q, va_A (wld S cA ad h) n1 q → A q := by
  intro q hq
  rcases hq with ⟨k, x, hk⟩ | hq
  · exact hD.2 k _ hk
  · exact hAq q (Nat.le_trans hs hq)
/-- the words of a callee, out of those of its caller -/
theorem ws_pay {mi mi' : MI} {args : Array Value} {s : State} (hts : ∀ w ∈ wsM mi, w.before args s = true) (hc : Cond.code mi'.1 mi'.2.1 mi'.2.2.1 mi'.2.2.2.1 ∈ TB) : ∀ w ∈ wsM mi', ∀ (a' : Array Value) (U : State), s.WarmedH U.vm → w.before a' U = true := by
  refine pay_in (big := TB) (fun w hw => tb_use hts hw) (fun w hw => ?_)
  rcases List.mem_cons.mp hw with rfl | hw
  · exact ⟨hc, good_of_word (List.mem_filter.mp hc).2⟩
  · exact ⟨hw, good_of_word (List.mem_filter.mp hw).2⟩
/-- behind a call -/
theorem A_run {S : Sys} {mi : MI} {bc bs : Nat} {p : Program} {l : Launch} {e : Env} {s : State} {m : MethodId} {args : Array Value} {below : List Frame} {meth : Method} {c : Code} {D : va_G} {cA : FieldType → ClassId} {A : Nat → Prop} {H : Heap} {locs : List Loc} {cells slots : Nat} {ad ad0 : Nat → Nat} {n0 : Nat} {lsc : Array Slot} {ls : LC} {st rest : List AV} {h : AH} {st0 : List Value} {mc ms : Nat} {a : Array Value} {Q Q' : Option AV → AH → Prop} {pc : Nat}
    (X : CX S mi bc bs p s m args meth c D cA A H locs cells slots ad ad0 n0 lsc ls st h) (hrest : okS (cn h) rest) (hbc : mc ≤ bc) (hbs : ms ≤ bs)
    (hr : va_Run p l e mi.2.2.2.2 s m args below meth c H locs cells slots mc ms (F0 m pc lsc st0) (rest.map (cv ad)) (Post S D cA (va_A (wld S cA ad h) H.size) ad (cn h) Q' a) (va_A (wld S cA ad h) H.size))
    (kk : ∀ v h', Q' v h' → AW S mi (bc - mc) (bs - ms) (pc + 3) ls (v.toList ++ rest) h' Q) :
    W p l e mi.2.2.2.2 s m args below meth c H locs cells slots (MQ below (Post S D cA A ad0 n0 Q) args s mi.2.2.2.2.cells mi.2.2.2.2.slots A) (F0 m pc lsc st0) := by
  obtain ⟨hC, ⟨hP, hD, hH⟩, hS, hB, hA0, hL, hok, hst⟩ := id X
  have hFA : ∀ q, va_A (wld S cA ad h) H.size q → A q := by
    intro q hq
    rcases hq with ⟨k, x, hk⟩ | hq
    · exact hD.2 k _ hk
    · exact hC.2.2.2.2.2.2.2.2.1 q (Nat.le_trans hS.1 hq)
  intro T hT X1
  obtain ⟨v, st₀, t, T', L, h0, X', hLf, e1, e2, ⟨⟨v', h', ad', g1, g2, hv, hq, g3, g4, g5, g6, g7⟩, hz, hk⟩, stp⟩ := hr T hT X1
  have hv' : v = v'.map (cv ad') := by cases hv; rfl
  subst hv'
  rw [h0] at hz hk
  have hS1 : va_S A s.heap T'.heap (locs ++ L) := ⟨Nat.le_trans hS.1 (by rw [e1]; exact hz), fun q h1 h2 => by rw [e1, hk q (Nat.lt_of_lt_of_le h1 hS.1) (fun z => h2 (hFA q z))]; exact hS.2.1 q h1 h2, fun q hq => by
      rcases List.mem_append.mp hq with h | h
      · exact hS.2.2 q h
      · exact hFA _ (hLf q h)⟩
  have hst1 : okS (cn h') (v'.toList ++ rest) := fun w hw => by
    rcases List.mem_append.mp hw with h1 | h1
    · exact g3 w h1
    · exact okV_le g2 (hrest w h1)
  obtain ⟨t2, a1, b1⟩ := kk v' h' hq p l e s m args below meth c D cA A T'.heap (locs ++ L) (cells + mc) (slots + ms) ad' ad0 n0 lsc ⟨hC, ⟨by rw [e1]; exact g5, g6.weaken (fun k q _ h => hFA q.1 h), g4⟩, hS1, ⟨by omega, by omega⟩, ⟨fun i hi => (g1 i (Nat.le_trans hi hA0.2)).trans (hA0.1 i hi), Nat.le_trans hA0.2 g2⟩, LR_ad g1 hok hL, okLs_le g2 hok, hst1⟩ T' rfl X'
  refine ⟨t2, stp t2 ?_, b1⟩
  rw [List.map_append, map_ad g1 hrest] at a1
  have e3 : (v'.toList).map (cv ad') = (v'.map (cv ad')).toList := by cases v' <;> rfl
  rw [e3] at a1
  exact a1
/-- the uppermost n of a stack, the lowest of them first, and the rest -/
def spl : Nat → List AV → List AV → List AV × List AV
  | 0, acc, st => (acc, st)
  | n + 1, acc, v :: st => spl n (v :: acc) st
  | _ + 1, acc, [] => (acc, [])
theorem spl_eq {n : Nat} {acc st as rest : List AV} (h : spl n acc st = (as, rest)) : as.reverse ++ rest = acc.reverse ++ st := by
  induction n generalizing acc st with
  | zero => cases h; rfl
  | succ n ih =>
    cases st with
    | nil => cases h; rfl
    | cons v st =>
      have := ih h
      rw [this]
      simp
def nPar (y : MethodName) : Option Nat := (parseMethodDescriptor y.desc).map (fun d => d.parameters.length)
def callOK (mi mi' : MI) (n : Nat) : Prop := Cond.code mi'.1 mi'.2.1 mi'.2.2.1 mi'.2.2.2.1 ∈ TB ∧ Cond.initialized mi'.1.cls ∈ TB ∧ (mi'.1.cls ≠ "java/lang/invoke/MethodHandle" ∧ mi'.1.cls ≠ "java/lang/invoke/VarHandle" ∧ nPar mi'.1 = some n) ∧ (mi'.2.2.2.2.frames + 1 ≤ mi.2.2.2.2.frames ∧ 8 + (mi'.2.2.1 + 11) + mi'.2.2.2.2.locals ≤ mi.2.2.2.2.locals)
theorem nPar_len {y : MethodName} {n : Nat} (h : nPar y = some n) : ∀ sig, parseMethodDescriptor y.desc = some sig → n = sig.parameters.length := by
  intro sig hs
  unfold nPar at h
  rw [hs] at h
  exact (Option.some.inj h).symm
def mcM (mi : MI) : Nat := mi.2.2.2.2.cells
def msM (mi : MI) : Nat := mi.2.2.2.2.slots
def op_invV (S : Sys) (mi' : MI) (ci n : Nat) : Op := fun next _ _ bc bs ls st h => match spl n [] st with
  | (as, .inr (.inr q) :: rest) => S q = some (.inl ci) ∧ as.length = n ∧ catS rest ≤ 8 ∧ mcM mi' ≤ bc ∧ msM mi' ≤ bs ∧ AM S mi' (.inr (.inr q) :: as) h (fun v h' => next (bc - mcM mi') (bs - msM mi') ls (v.toList ++ rest) h')
  | _ => False
theorem so_invV {mi' : MI} {ci n index N : Nat} {T : u_T} (hS0 : S 0 = none) (hcl : vwCl[ci]? = some (mi'.1.cls, T, N)) (hi : Cond.instanceMethod mi'.1 ∈ TB) (hse : Cond.selects mi'.1.cls mi'.1 mi'.1 ∈ TB) (hco : callOK mi mi' n) (hl : Cond.methodLink mi.1.cls index mi'.1 ∈ TB) (hd : decode mi.2.1 pc = .ok (.invokevirtual index, 3)) : SO S mi pc (pc + 3) tg (op_invV S mi' ci n) := by
  intro next J Q bc bs ls st h hn hJ hop
  unfold op_invV at hop
  split at hop
  · rename_i as q rest hspl
    obtain ⟨hq, hlen, hcat, hbc, hbs, hop⟩ := hop
    intro p l e s m args below meth c D cA A H locs cells slots ad ad0 n0 lsc X
    obtain ⟨hC, ⟨hP, hD, hH⟩, hS, hB, hA0, hL, hok, hst⟩ := id X
    obtain ⟨hx, hb, hml, hr, hts, hown, hlk, hK, hAq, hnm, hNB⟩ := id hC
    have hse2 := spl_eq hspl
    simp only [List.reverse_nil, List.nil_append] at hse2
    have hst' : okS (cn h) (as.reverse ++ .inr (.inr q) :: rest) := by rw [hse2]; exact hst
    have has : okS (cn h) as := fun w hw => hst' w (List.mem_append_left _ (List.mem_reverse.mpr hw))
    have hqr : okS (cn h) (.inr (.inr q) :: rest) := fun w hw => hst' w (List.mem_append_right _ hw)
    rw [okS_cons] at hqr
    have hq1 := q_pos hS0 hq
    have hcq : cv ad (.inr (.inr q)) = .ref (ad q) := rv_pos hq1
    have hat := wld_at (S := S) (cA := cA) (ad := ad) (h := h) hq1 hqr.1
    rw [ent_obj hq] at hat
    refine A_run X hqr.2 hbc hbs (a := (Value.ref (ad q) :: as.map (cv ad)).toArray) (va_runV (As := as.map (cv ad)) (rest := rest.map (cv ad)) (n := n) ⟨hx, hb, hml, hown, hts⟩ (hop l D cA ad H.size hH (okS_cons.mpr ⟨hqr.1, has⟩)) ⟨⟨rfl, rfl, hco.2.2.2.1, hco.2.2.2.2, ws_pay hts hco.1, List.mem_cons_self, tb_use hts hco.1, tb_use hts hco.2.1, ⟨hco.2.2.1.1, hco.2.2.1.2.1⟩, nPar_len hco.2.2.1.2.2, tb_use hts hl⟩, tb_use hts hi, tb_use hts hse⟩ ⟨pc_blind, va_recv hK hP hcl hat, fun U hU hW => ⟨by rw [List.map_cons, hcq], by rw [hU], by rw [hU]; exact hP, va_K.moved hW.alike hK, hD.weaken (fun _ _ _ _ => trivial), hNB.1.warm hW, hNB.2.go hS (va_A_in hD hAq hS.1) hW hU⟩⟩ rfl (by rw [List.length_map]; exact hlen) hL.1 ?_ (lv_room (by rw [cat_map]; exact hcat)) hd ⟨by show cells + mcM mi' ≤ _; omega, by show slots + msM mi' ≤ _; omega⟩) (fun v h' hq' => hn _ _ _ _ _ hq')
    show st.map (cv ad) = _
    rw [← hse2, List.map_append, List.map_cons, List.map_reverse, hcq]
  · exact hop.elim
theorem so_invVN {mi' : MI} {ci n index N : Nat} {T : u_T} {host : String} (hS0 : S 0 = none) (hcl : vwCl[ci]? = some (mi'.1.cls, T, N)) (hi : Cond.instanceMethod mi'.1 ∈ TB) (hse : Cond.selects mi'.1.cls mi'.1 mi'.1 ∈ TB) (hco : callOK mi mi' n) (hl : Cond.methodLinkNest mi.1.cls index mi'.1 host ∈ NB) (hd : decode mi.2.1 pc = .ok (.invokevirtual index, 3)) : SO S mi pc (pc + 3) tg (op_invV S mi' ci n) := by
  intro next J Q bc bs ls st h hn hJ hop
  unfold op_invV at hop
  split at hop
  · rename_i as q rest hspl
    obtain ⟨hq, hlen, hcat, hbc, hbs, hop⟩ := hop
    intro p l e s m args below meth c D cA A H locs cells slots ad ad0 n0 lsc X
    obtain ⟨hC, ⟨hP, hD, hH⟩, hS, hB, hA0, hL, hok, hst⟩ := id X
    obtain ⟨hx, hb, hml, hr, hts, hown, hlk, hK, hAq, hnm, hNB⟩ := id hC
    have hse2 := spl_eq hspl
    simp only [List.reverse_nil, List.nil_append] at hse2
    have hst' : okS (cn h) (as.reverse ++ .inr (.inr q) :: rest) := by rw [hse2]; exact hst
    have has : okS (cn h) as := fun w hw => hst' w (List.mem_append_left _ (List.mem_reverse.mpr hw))
    have hqr : okS (cn h) (.inr (.inr q) :: rest) := fun w hw => hst' w (List.mem_append_right _ hw)
    rw [okS_cons] at hqr
    have hq1 := q_pos hS0 hq
    have hcq : cv ad (.inr (.inr q)) = .ref (ad q) := rv_pos hq1
    have hat := wld_at (S := S) (cA := cA) (ad := ad) (h := h) hq1 hqr.1
    rw [ent_obj hq] at hat
    refine A_run X hqr.2 hbc hbs (a := (Value.ref (ad q) :: as.map (cv ad)).toArray) (va_runVN (As := as.map (cv ad)) (rest := rest.map (cv ad)) (n := n) ⟨hx, hb, hml, hown, hts⟩ (hop l D cA ad H.size hH (okS_cons.mpr ⟨hqr.1, has⟩)) ⟨⟨⟨rfl, rfl, hco.2.2.2.1, hco.2.2.2.2, ws_pay hts hco.1, List.mem_cons_self⟩, tb_use hts hco.1, tb_use hts hco.2.1, ⟨hco.2.2.1.1, hco.2.2.1.2.1⟩, nPar_len hco.2.2.1.2.2, va_Nw.use rfl (hNB.1.1 _ hl)⟩, tb_use hts hi, tb_use hts hse⟩ ⟨pc_blind, va_recv hK hP hcl hat, fun U hU hW => ⟨by rw [List.map_cons, hcq], by rw [hU], by rw [hU]; exact hP, va_K.moved hW.alike hK, hD.weaken (fun _ _ _ _ => trivial), hNB.1.warm hW, hNB.2.go hS (va_A_in hD hAq hS.1) hW hU⟩⟩ rfl (by rw [List.length_map]; exact hlen) hL.1 ?_ (lv_room (by rw [cat_map]; exact hcat)) hd ⟨by show cells + mcM mi' ≤ _; omega, by show slots + msM mi' ≤ _; omega⟩) (fun v h' hq' => hn _ _ _ _ _ hq')
    show st.map (cv ad) = _
    rw [← hse2, List.map_append, List.map_cons, List.map_reverse, hcq]
  · exact hop.elim
def op_invS (S : Sys) (mi' : MI) (n : Nat) : Op := fun next _ _ bc bs ls st h => match spl n [] st with
  | (as, rest) => as.length = n ∧ catS rest ≤ 8 ∧ mcM mi' ≤ bc ∧ msM mi' ≤ bs ∧ AM S mi' as h (fun v h' => next (bc - mcM mi') (bs - msM mi') ls (v.toList ++ rest) h')
theorem so_invS {mi' : MI} {n index : Nat} (hs : Cond.static mi'.1 ∈ TB) (hco : callOK mi mi' n) (hl : Cond.methodLink mi.1.cls index mi'.1 ∈ TB) (hd : decode mi.2.1 pc = .ok (.invokestatic index, 3)) : SO S mi pc (pc + 3) tg (op_invS S mi' n) := by
  intro next J Q bc bs ls st h hn hJ hop
  unfold op_invS at hop
  split at hop
  · rename_i as rest hspl
    obtain ⟨hlen, hcat, hbc, hbs, hop⟩ := hop
    intro p l e s m args below meth c D cA A H locs cells slots ad ad0 n0 lsc X
    obtain ⟨hC, ⟨hP, hD, hH⟩, hS, hB, hA0, hL, hok, hst⟩ := id X
    obtain ⟨hx, hb, hml, hr, hts, hown, hlk, hK, hAq, hnm, hNB⟩ := id hC
    have hse2 := spl_eq hspl
    simp only [List.reverse_nil, List.nil_append] at hse2
    have hst' : okS (cn h) (as.reverse ++ rest) := by rw [hse2]; exact hst
    have has : okS (cn h) as := fun w hw => hst' w (List.mem_append_left _ (List.mem_reverse.mpr hw))
    have hqr : okS (cn h) rest := fun w hw => hst' w (List.mem_append_right _ hw)
    refine A_run X hqr hbc hbs (a := (as.map (cv ad)).toArray) (va_runS (As := as.map (cv ad)) (rest := rest.map (cv ad)) (n := n) ⟨hx, hb, hml, hown, hts⟩ (hop l D cA ad H.size hH has) ⟨⟨rfl, rfl, hco.2.2.2.1, hco.2.2.2.2, ws_pay hts hco.1, List.mem_cons_self, tb_use hts hco.1, tb_use hts hco.2.1, ⟨hco.2.2.1.1, hco.2.2.1.2.1⟩, nPar_len hco.2.2.1.2.2, tb_use hts hl⟩, tb_use hts hs⟩ ⟨pc_blind, fun U hU hW => ⟨rfl, by rw [hU], by rw [hU]; exact hP, va_K.moved hW.alike hK, hD.weaken (fun _ _ _ _ => trivial), hNB.1.warm hW, hNB.2.go hS (va_A_in hD hAq hS.1) hW hU⟩⟩ rfl (by rw [List.length_map]; exact hlen) hL.1 ?_ (lv_room (by rw [cat_map]; exact hcat)) hd ⟨by show cells + mcM mi' ≤ _; omega, by show slots + msM mi' ≤ _; omega⟩) (fun v h' hq' => hn _ _ _ _ _ hq')
    show st.map (cv ad) = _
    rw [← hse2, List.map_append, List.map_reverse]
theorem so_invSN {mi' : MI} {n index : Nat} {host : String} (hs : Cond.static mi'.1 ∈ TB) (hco : callOK mi mi' n) (hl : Cond.methodLinkNest mi.1.cls index mi'.1 host ∈ NB) (hd : decode mi.2.1 pc = .ok (.invokestatic index, 3)) : SO S mi pc (pc + 3) tg (op_invS S mi' n) := by
  intro next J Q bc bs ls st h hn hJ hop
  unfold op_invS at hop
  split at hop
  · rename_i as rest hspl
    obtain ⟨hlen, hcat, hbc, hbs, hop⟩ := hop
    intro p l e s m args below meth c D cA A H locs cells slots ad ad0 n0 lsc X
    obtain ⟨hC, ⟨hP, hD, hH⟩, hS, hB, hA0, hL, hok, hst⟩ := id X
    obtain ⟨hx, hb, hml, hr, hts, hown, hlk, hK, hAq, hnm, hNB⟩ := id hC
    have hse2 := spl_eq hspl
    simp only [List.reverse_nil, List.nil_append] at hse2
    have hst' : okS (cn h) (as.reverse ++ rest) := by rw [hse2]; exact hst
    have has : okS (cn h) as := fun w hw => hst' w (List.mem_append_left _ (List.mem_reverse.mpr hw))
    have hqr : okS (cn h) rest := fun w hw => hst' w (List.mem_append_right _ hw)
    refine A_run X hqr hbc hbs (a := (as.map (cv ad)).toArray) (va_runSN (As := as.map (cv ad)) (rest := rest.map (cv ad)) (n := n) ⟨hx, hb, hml, hown, hts⟩ (hop l D cA ad H.size hH has) ⟨⟨⟨rfl, rfl, hco.2.2.2.1, hco.2.2.2.2, ws_pay hts hco.1, List.mem_cons_self⟩, tb_use hts hco.1, tb_use hts hco.2.1, ⟨hco.2.2.1.1, hco.2.2.1.2.1⟩, nPar_len hco.2.2.1.2.2, va_Nw.use rfl (hNB.1.1 _ hl)⟩, tb_use hts hs, trivial⟩ ⟨pc_blind, fun U hU hW => ⟨rfl, by rw [hU], by rw [hU]; exact hP, va_K.moved hW.alike hK, hD.weaken (fun _ _ _ _ => trivial), hNB.1.warm hW, hNB.2.go hS (va_A_in hD hAq hS.1) hW hU⟩⟩ rfl (by rw [List.length_map]; exact hlen) hL.1 ?_ (lv_room (by rw [cat_map]; exact hcat)) hd ⟨by show cells + mcM mi' ≤ _; omega, by show slots + msM mi' ≤ _; omega⟩) (fun v h' hq' => hn _ _ _ _ _ hq')
    show st.map (cv ad) = _
    rw [← hse2, List.map_append, List.map_reverse]
def op_invI (S : Sys) (mi' : MI) (n : Nat) : Op := fun next _ _ bc bs ls st h => match spl n [] st with
  | (as, .inr (.inr q) :: rest) => 1 ≤ q ∧ as.length = n ∧ catS rest ≤ 8 ∧ mcM mi' ≤ bc ∧ msM mi' ≤ bs ∧ AM S mi' (.inr (.inr q) :: as) h (fun v h' => next (bc - mcM mi') (bs - msM mi') ls (v.toList ++ rest) h')
  | _ => False
theorem so_invI {mi' : MI} {n index : Nat} (hi : Cond.instanceMethod mi'.1 ∈ TB) (hin : mi'.1.name = "<init>") (hrn : mi'.2.2.2.1 = none) (hco : callOK mi mi' n) (hl : Cond.methodLink mi.1.cls index mi'.1 ∈ TB) (hd : decode mi.2.1 pc = .ok (.invokespecial index, 3)) : SO S mi pc (pc + 3) tg (op_invI S mi' n) := by
  intro next J Q bc bs ls st h hn hJ hop
  unfold op_invI at hop
  split at hop
  · rename_i as q rest hspl
    obtain ⟨hq1, hlen, hcat, hbc, hbs, hop⟩ := hop
    intro p l e s m args below meth c D cA A H locs cells slots ad ad0 n0 lsc X
    obtain ⟨hC, ⟨hP, hD, hH⟩, hS, hB, hA0, hL, hok, hst⟩ := id X
    obtain ⟨hx, hb, hml, hr, hts, hown, hlk, hK, hAq, hnm, hNB⟩ := id hC
    have hse2 := spl_eq hspl
    simp only [List.reverse_nil, List.nil_append] at hse2
    have hst' : okS (cn h) (as.reverse ++ .inr (.inr q) :: rest) := by rw [hse2]; exact hst
    have has : okS (cn h) as := fun w hw => hst' w (List.mem_append_left _ (List.mem_reverse.mpr hw))
    have hqr : okS (cn h) (.inr (.inr q) :: rest) := fun w hw => hst' w (List.mem_append_right _ hw)
    rw [okS_cons] at hqr
    have hcq : cv ad (.inr (.inr q)) = .ref (ad q) := rv_pos hq1
    refine A_run X hqr.2 hbc hbs (a := (Value.ref (ad q) :: as.map (cv ad)).toArray) (va_runI (As := as.map (cv ad)) (rest := rest.map (cv ad)) (n := n) ⟨hx, hb, hml, hown, hts⟩ (hop l D cA ad H.size hH (okS_cons.mpr ⟨hqr.1, has⟩)) ⟨⟨rfl, rfl, hco.2.2.2.1, hco.2.2.2.2, ws_pay hts hco.1, (by rw [← hrn]; exact List.mem_cons_self), (by have := tb_use hts hco.1; rw [hrn] at this; exact this), tb_use hts hco.2.1, ⟨hco.2.2.1.1, hco.2.2.1.2.1⟩, nPar_len hco.2.2.1.2.2, tb_use hts hl⟩, hin, tb_use hts hi⟩ ⟨pc_blind, fun U hU hW => ⟨by rw [List.map_cons, hcq], by rw [hU], by rw [hU]; exact hP, va_K.moved hW.alike hK, hD.weaken (fun _ _ _ _ => trivial), hNB.1.warm hW, hNB.2.go hS (va_A_in hD hAq hS.1) hW hU⟩⟩ rfl (by rw [List.length_map]; exact hlen) hL.1 ?_ (lv_room (by rw [cat_map]; exact hcat)) hd ⟨by show cells + mcM mi' ≤ _; omega, by show slots + msM mi' ≤ _; omega⟩) (fun v h' hq' => hn _ _ _ _ _ hq')
    show st.map (cv ad) = _
    rw [← hse2, List.map_append, List.map_cons, List.map_reverse, hcq]
  · exact hop.elim
theorem so_invIN {mi' : MI} {n index : Nat} {host : String} (hi : Cond.instanceMethod mi'.1 ∈ TB) (hin : mi'.1.name = "<init>") (hrn : mi'.2.2.2.1 = none) (hco : callOK mi mi' n) (hl : Cond.methodLinkNest mi.1.cls index mi'.1 host ∈ NB) (hd : decode mi.2.1 pc = .ok (.invokespecial index, 3)) : SO S mi pc (pc + 3) tg (op_invI S mi' n) := by
  intro next J Q bc bs ls st h hn hJ hop
  unfold op_invI at hop
  split at hop
  · rename_i as q rest hspl
    obtain ⟨hq1, hlen, hcat, hbc, hbs, hop⟩ := hop
    intro p l e s m args below meth c D cA A H locs cells slots ad ad0 n0 lsc X
    obtain ⟨hC, ⟨hP, hD, hH⟩, hS, hB, hA0, hL, hok, hst⟩ := id X
    obtain ⟨hx, hb, hml, hr, hts, hown, hlk, hK, hAq, hnm, hNB⟩ := id hC
    have hse2 := spl_eq hspl
    simp only [List.reverse_nil, List.nil_append] at hse2
    have hst' : okS (cn h) (as.reverse ++ .inr (.inr q) :: rest) := by rw [hse2]; exact hst
    have has : okS (cn h) as := fun w hw => hst' w (List.mem_append_left _ (List.mem_reverse.mpr hw))
    have hqr : okS (cn h) (.inr (.inr q) :: rest) := fun w hw => hst' w (List.mem_append_right _ hw)
    rw [okS_cons] at hqr
    have hcq : cv ad (.inr (.inr q)) = .ref (ad q) := rv_pos hq1
    refine A_run X hqr.2 hbc hbs (a := (Value.ref (ad q) :: as.map (cv ad)).toArray) (va_runIN (As := as.map (cv ad)) (rest := rest.map (cv ad)) (n := n) ⟨hx, hb, hml, hown, hts⟩ (hop l D cA ad H.size hH (okS_cons.mpr ⟨hqr.1, has⟩)) ⟨⟨⟨rfl, rfl, hco.2.2.2.1, hco.2.2.2.2, ws_pay hts hco.1, (by rw [← hrn]; exact List.mem_cons_self)⟩, (by have := tb_use hts hco.1; rw [hrn] at this; exact this), tb_use hts hco.2.1, ⟨hco.2.2.1.1, hco.2.2.1.2.1⟩, nPar_len hco.2.2.1.2.2, va_Nw.use rfl (hNB.1.1 _ hl)⟩, hin, tb_use hts hi⟩ ⟨pc_blind, fun U hU hW => ⟨by rw [List.map_cons, hcq], by rw [hU], by rw [hU]; exact hP, va_K.moved hW.alike hK, hD.weaken (fun _ _ _ _ => trivial), hNB.1.warm hW, hNB.2.go hS (va_A_in hD hAq hS.1) hW hU⟩⟩ rfl (by rw [List.length_map]; exact hlen) hL.1 ?_ (lv_room (by rw [cat_map]; exact hcat)) hd ⟨by show cells + mcM mi' ≤ _; omega, by show slots + msM mi' ≤ _; omega⟩) (fun v h' hq' => hn _ _ _ _ _ hq')
    show st.map (cv ad) = _
    rw [← hse2, List.map_append, List.map_cons, List.map_reverse, hcq]
  · exact hop.elim
end COPS
/-! blocks -/
def wpB : List Op → (Nat → Nat → Nat → LC → List AV → AH → Prop) → (Option AV → AH → Prop) → Nat → Nat → LC → List AV → AH → Prop
  | [], _, _ => fun _ _ _ _ _ => False
  | op :: ops, J, Q => op (wpB ops J Q) J Q
def SB (S : Sys) (mi : MI) (tg : Nat → Nat) : Nat → List Op → Prop
  | _, [] => True
  | pc, op :: ops => ∃ pc', SO S mi pc pc' tg op ∧ SB S mi tg pc' ops
theorem SB.go {S : Sys} {mi : MI} {tg : Nat → Nat} {pc : Nat} {ops : List Op} (h : SB S mi tg pc ops) {J : Nat → Nat → Nat → LC → List AV → AH → Prop} {Q : Option AV → AH → Prop} (hJ : ∀ t bc bs ls st h, J t bc bs ls st h → AW S mi bc bs (tg t) ls st h Q) : ∀ bc bs ls st hh, wpB ops J Q bc bs ls st hh → AW S mi bc bs pc ls st hh Q := by
  induction ops generalizing pc with
  | nil => intro _ _ _ _ _ q; exact q.elim
  | cons op ops ih =>
    intro bc bs ls st hh q
    obtain ⟨pc', h1, h2⟩ := h
    exact h1 _ _ _ _ _ _ _ _ (ih h2) hJ q
/-- the jump: on to the block, as long as there is fuel and it is no place to stop at -/
def wpJ (S : Sys) (mi : MI) (code : List (List Op)) (tg : Nat → Nat) (stops : List Nat) (Q : Option AV → AH → Prop) : Nat → Nat → Nat → Nat → LC → List AV → AH → Prop
  | 0, t => fun bc bs ls st h => AW S mi bc bs (tg t) ls st h Q
  | n + 1, t => fun bc bs ls st h => if t ∈ stops then AW S mi bc bs (tg t) ls st h Q else wpB (code.getD t []) (wpJ S mi code tg stops Q n) Q bc bs ls st h
def MOK (S : Sys) (mi : MI) (code : List (List Op)) (tg : Nat → Nat) : Prop := ∀ t, SB S mi tg (tg t) (code.getD t [])
theorem MOK.jump {S : Sys} {mi : MI} {code : List (List Op)} {tg : Nat → Nat} (hM : MOK S mi code tg) {stops : List Nat} {Q : Option AV → AH → Prop} (n t : Nat) : ∀ bc bs ls st h, wpJ S mi code tg stops Q n t bc bs ls st h → AW S mi bc bs (tg t) ls st h Q := by
  induction n generalizing t with
  | zero => intro bc bs ls st h q; exact q
  | succ n ih =>
    intro bc bs ls st h q
    simp only [wpJ] at q
    split at q
    · exact q
    · exact (hM t).go ih _ _ _ _ _ q
/-- THE WALK: from block t on, n jumps deep, stopping at 'stops' -/
theorem MOK.go {S : Sys} {mi : MI} {code : List (List Op)} {tg : Nat → Nat} (hM : MOK S mi code tg) (stops : List Nat) (n t : Nat) {Q : Option AV → AH → Prop} {bc bs : Nat} {ls : LC} {st : List AV} {h : AH} (q : wpB (code.getD t []) (wpJ S mi code tg stops Q n) Q bc bs ls st h) : AW S mi bc bs (tg t) ls st h Q :=
  (hM t).go (hM.jump n) _ _ _ _ _ q
def entL : List AV → Nat → LC
  | [], n => List.replicate n none
  | .inr (.inl x) :: as, n => some (.inr (.inl x)) :: none :: entL as (n - 2)
  | v :: as, n => some v :: entL as (n - 1)
theorem entL_okLs {n : Nat} {as : List AV} (h : okS n as) (L : Nat) : okLs n (entL as L) := by
  induction as generalizing L with
  | nil =>
    intro i v hv
    exfalso
    simp only [entL] at hv
    clear h
    induction L generalizing i with
    | zero => simp [lg] at hv
    | succ L ih =>
      rw [List.replicate_succ] at hv
      cases i with
      | zero => simp [lg] at hv
      | succ i => exact ih i hv
  | cons a as ih =>
    rw [okS_cons] at h
    intro i v hv
    rcases a with x | x | x
    · cases i with
      | zero => simp only [entL, lg] at hv; cases hv; exact h.1
      | succ i => exact ih h.2 (L - 1) i v hv
    · cases i with
      | zero => simp only [entL, lg] at hv; cases hv; exact h.1
      | succ i =>
        cases i with
        | zero => simp [entL, lg] at hv
        | succ i => exact ih h.2 (L - 2) i v hv
    · cases i with
      | zero => simp only [entL, lg] at hv; cases hv; exact h.1
      | succ i => exact ih h.2 (L - 1) i v hv
theorem entL_args {ad : Nat → Nat} {as : List AV} {L i j : Nat} {v : AV} (h : lg (entL as L) i = some v) : (i + j, cv ad v) ∈ lv_args j (as.map (cv ad)) := by
  induction as generalizing L i j with
  | nil =>
    exfalso
    simp only [entL] at h
    induction L generalizing i with
    | zero => simp [lg] at h
    | succ L ih =>
      rw [List.replicate_succ] at h
      cases i with
      | zero => simp [lg] at h
      | succ i => exact ih h
  | cons a as ih =>
    rcases a with x | x | x
    · cases i with
      | zero => simp only [entL, lg] at h; cases h; rw [Nat.zero_add]; exact List.mem_cons_self
      | succ i =>
        have := ih (j := j + 1) (show lg (entL as (L - 1)) i = some v from h)
        rw [show i + (j + 1) = i + 1 + j by omega] at this
        exact List.mem_cons_of_mem _ this
    · cases i with
      | zero => simp only [entL, lg] at h; cases h; rw [Nat.zero_add]; exact List.mem_cons_self
      | succ i =>
        cases i with
        | zero => simp [entL, lg] at h
        | succ i =>
          have := ih (j := j + 2) (show lg (entL as (L - 2)) i = some v from h)
          rw [show i + (j + 2) = i + 1 + 1 + j by omega] at this
          exact List.mem_cons_of_mem _ this
    · cases i with
      | zero => simp only [entL, lg] at h; cases h; rw [Nat.zero_add]; exact List.mem_cons_self
      | succ i =>
        have := ih (j := j + 1) (show lg (entL as (L - 1)) i = some v from h)
        rw [show i + (j + 1) = i + 1 + j by omega] at this
        have hc : ¬ ((cv ad (.inr (.inr x))).category = 2) := by rw [cat_cv]; simp [catV]
        simp only [List.map_cons, lv_args, if_neg hc]
        exact List.mem_cons_of_mem _ this
theorem sl_len {ad : Nat → Nat} {as : List AV} : (lg_sl (as.map (cv ad))).length = catS as := by
  induction as with
  | nil => rfl
  | cons a as ih =>
    have e : lg_sl ((a :: as).map (cv ad)) = lg_sl [cv ad a] ++ lg_sl (as.map (cv ad)) := by simp [lg_sl]
    rw [e, List.length_append, ih, catS]
    congr 1
    rcases a with x | x | x
    · rfl
    · rfl
    · simp only [cv, rv]; split <;> rfl
set_option maxHeartbeats 4000000 in
/-- A CONTRACT out of a walk from the method's first block -/
theorem AM_of {S : Sys} {mi : MI} {as : List AV} {h : AH} {Q : Option AV → AH → Prop} (hy : plainName mi.1.cls = true) (hlen : catS as ≤ mi.2.2.1) (w : AW S mi (mcM mi) (msM mi) 0 (entL as mi.2.2.1) [] h Q) : AM S mi as h Q := by
  intro l D cA ad sz hH has
  refine Met.ofW (cc := mi.2.1) (maxL := mi.2.2.1) (ret := mi.2.2.2.1) hy rfl ?_
  intro p e s m args below meth c s₁ B hml hv
  obtain ⟨rfl, hsz, hP, hK, hD0, hNB⟩ := hv
  have hts := atoms_spec (ws := wsM mi) B.pre
  have hown : s.vm.findClass mi.1.cls = some m.cls := findClass_of_methodNamed B.named
  have hnm : meth.name = mi.1.name := (name_of_methodNamed B.named B.method).1
  subst hsz
  have hl := lv_entry (as.map (cv ad)) (n := mi.2.2.1) (by rw [sl_len]; exact hlen)
  rw [lg_entry_eq]
  have hLR : LR ad ((lg_sl (as.map (cv ad)) ++ List.replicate (mi.2.2.1 - (lg_sl (as.map (cv ad))).length) Slot.unset).toArray) mi.2.2.1 (entL as mi.2.2.1) :=
    ⟨hl.1, hl.2.1, fun i v hv => hl.2.2 _ (by have := entL_args (ad := ad) (j := 0) hv; simpa using this)⟩
  exact w p l e s m _ below meth c D cA (va_A (wld S cA ad h) s.heap.size) s.heap [] 0 0 ad ad (cn h) _ ⟨⟨B.exec, B.bytes, hml, B.returns, hts, hown, B.notSynchronized, hK, fun q hq => Or.inr hq, hnm, hNB⟩, ⟨hP, hD0.self, hH⟩, va_S.rf, ⟨by show 0 + mcM mi ≤ _; simp [mcM], by show 0 + msM mi ≤ _; simp [msM]⟩, ⟨fun _ _ => rfl, Nat.le_refl _⟩, hLR, entL_okLs has _, okS_nil⟩

