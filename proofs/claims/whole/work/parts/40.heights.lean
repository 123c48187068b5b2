/-! HEIGHTS, told without the programs: t.1 the number that a PLACE hangs together by (-1 none yet), t.2 its height -/
abbrev HS := (Nat → Int) × (Nat → Int)
noncomputable def mvH (t : HS) (p q c : Int) : HS := (up1 t.1 q.toNat (t.1 p.toNat), up1 t.2 q.toNat (wr (t.2 p.toNat + c)))
noncomputable def crH (k w : Nat → Int) (o : Nat → Bool) (r : Nat) (t : HS) : HS := if o r = true then (if 0 ≤ t.1 (k (14 + r)).toNat ∧ t.1 (k (23 + r)).toNat < 0 then mvH t (k (14 + r)) (k (23 + r)) (chg k w r (k (14 + r))) else if 0 ≤ t.1 (k (23 + r)).toNat ∧ t.1 (k (14 + r)).toNat < 0 then mvH t (k (23 + r)) (k (14 + r)) (chg k w r (k (23 + r))) else t) else t
noncomputable def tnH (k w : Nat → Int) (o : Nat → Bool) : Nat → HS → HS
  | 0, t => t
  | r + 1, t => crH k w o r (tnH k w o r t)
noncomputable def itH (k w : Nat → Int) (o : Nat → Bool) : Nat → HS → HS
  | 0, t => t
  | n + 1, t => tnH k w o (k 1).toNat (itH k w o n t)
noncomputable def layH (k w : Nat → Int) (o : Nat → Bool) : Nat → HS
  | 0 => (fun _ => -1, fun _ => 0)
  | p + 1 => if (layH k w o p).1 p < 0 then itH k w o 6 (up1 (layH k w o p).1 p p, up1 (layH k w o p).2 p 100) else layH k w o p
noncomputable def okR (k w : Nat → Int) (t : HS) (r : Nat) : Bool := decide (chg k w r (k (14 + r)) = wr (t.2 (k (23 + r)).toNat - t.2 (k (14 + r)).toNat)) && decide (chg k w r (k (23 + r)) = wr (-(wr (t.2 (k (23 + r)).toNat - t.2 (k (14 + r)).toNat))))
noncomputable def oH (k : Nat → Int) (t : HS) : Prop := ∀ j, (-1 ≤ t.1 j ∧ t.1 j < 6) ∧ (k 0 ≤ j → t.1 j = -1)
noncomputable def HT (h : AH) (G X : Nat) (t : HS) : Prop := ∀ j, j < 6 → gi h G j = t.1 j ∧ (0 ≤ t.1 j → gi h X j = t.2 j)
theorem HT.mv {h : AH} {G X : Nat} {t : HS} {p q c : Int} (ht : HT h G X t) (hGX : G ≠ X) (hp : 0 ≤ p ∧ p < 6) (hq : 0 ≤ q ∧ q < 6) (hg : 0 ≤ t.1 p.toNat) (hne : p ≠ q) : HT (si (si h G q.toNat (gi h G p.toNat)) X q.toNat (wr (gi h X p.toNat + c))) G X (mvH t p q c) := by
  have e := ht p.toNat (by omega)
  intro j hj
  have ej := ht j hj
  unfold mvH up1
  dsimp only
  by_cases g : j = q.toNat
  · rw [if_pos g, if_pos g]
    refine ⟨?_, fun _ => ?_⟩
    · rw [gi_si, if_neg (fun z => hGX z.1), gi_si, if_pos ⟨rfl, g⟩]; exact e.1
    · rw [gi_si, if_pos ⟨rfl, g⟩, e.2 hg]
  · rw [if_neg g, if_neg g]
    refine ⟨?_, fun z => ?_⟩
    · rw [gi_si, if_neg (fun z => g z.2), gi_si, if_neg (fun z => g z.2)]; exact ej.1
    · rw [gi_si, if_neg (fun z => g z.2), gi_si, if_neg (fun z => g z.2)]; exact ej.2 z
theorem oH.mv {k : Nat → Int} {t : HS} {p q c : Int} (ht : oH k t) (hq : 0 ≤ q ∧ q < k 0) : oH k (mvH t p q c) := by
  intro j
  have e := ht j
  have ep := ht p.toNat
  unfold mvH up1
  dsimp only
  by_cases g : j = q.toNat
  · rw [if_pos g]; exact ⟨ep.1, fun z => by omega⟩
  · rw [if_neg g]; exact e
theorem oH.cr {k w : Nat → Int} (hI : Inv k w) {o : Nat → Bool} {r : Nat} {t : HS} (hr : (r : Int) < k 1) (ht : oH k t) : oH k (crH k w o r t) := by
  have hE := hI.2.2.2.1 r hr
  unfold crH
  split
  · split
    · exact ht.mv hE.2.2.1
    · split
      · exact ht.mv hE.2.1
      · exact ht
  · exact ht
theorem oH.tn {k w : Nat → Int} (hI : Inv k w) {o : Nat → Bool} {t : HS} (ht : oH k t) (r : Nat) (hr : (r : Int) ≤ k 1) : oH k (tnH k w o r t) := by
  induction r with
  | zero => exact ht
  | succ r ih => exact (ih (by omega)).cr hI (by omega)
theorem oH.it {k w : Nat → Int} (hI : Inv k w) {o : Nat → Bool} {t : HS} (ht : oH k t) (n : Nat) : oH k (itH k w o n t) := by
  have hk := hI.2.1
  induction n with
  | zero => exact ht
  | succ n ih => exact ih.tn hI _ (by omega)
noncomputable def cntH (f : Nat → Int) : Nat → Nat
  | 0 => 0
  | n + 1 => cntH f n + if 0 ≤ f n then 1 else 0
theorem cntH_le (f : Nat → Int) (n : Nat) : cntH f n ≤ n := by
  induction n with
  | zero => exact Nat.le_refl _
  | succ n ih => unfold cntH; split <;> omega
theorem cntH_far {f : Nat → Int} {m : Nat} (n : Nat) (h : ∀ j, m ≤ j → f j = -1) : cntH f (m + n) = cntH f m := by
  induction n with
  | zero => rfl
  | succ n ih =>
    show cntH f (m + n) + (if 0 ≤ f (m + n) then 1 else 0) = _
    rw [ih, if_neg (by rw [h (m + n) (by omega)]; omega)]; rfl
theorem cntH_cong {f g : Nat → Int} {n : Nat} (h : ∀ j, j < n → f j = g j) : cntH f n = cntH g n := by
  induction n with
  | zero => rfl
  | succ n ih => unfold cntH; rw [ih (fun j hj => h j (by omega)), h n (by omega)]
theorem cntH_up {f : Nat → Int} {q n : Nat} {v : Int} (hq : q < n) (hf : f q < 0) (hv : 0 ≤ v) : cntH (up1 f q v) n = cntH f n + 1 := by
  induction n with
  | zero => omega
  | succ n ih =>
    unfold cntH
    by_cases g : q = n
    · have e1 : cntH (up1 f q v) n = cntH f n := cntH_cong (fun j hj => by unfold up1; rw [if_neg (by omega)])
      have e2 : up1 f q v n = v := by unfold up1; rw [if_pos g.symm]
      rw [e1, e2, if_pos hv, if_neg (by rw [← g]; omega)]
    · have e2 : up1 f q v n = f n := by unfold up1; rw [if_neg (fun z => g z.symm)]
      rw [ih (by omega), e2]; omega
theorem cntH_one {f : Nat → Int} {n p : Nat} (hp : p < n) (h : 0 ≤ f p) : 1 ≤ cntH f n := by
  induction n with
  | zero => omega
  | succ n ih =>
    unfold cntH
    by_cases g : p = n
    · rw [← g, if_pos h]; omega
    · have := ih (by omega); omega
theorem crH_cnt {k w : Nat → Int} (hI : Inv k w) {o : Nat → Bool} {r : Nat} {t : HS} (hr : (r : Int) < k 1) : crH k w o r t = t ∨ cntH (crH k w o r t).1 6 = cntH t.1 6 + 1 := by
  have hE := hI.2.2.2.1 r hr
  have h0 := hI.1
  unfold crH
  split
  · split
    · rename_i _ g
      exact Or.inr (cntH_up (by omega) g.2 g.1)
    · split
      · rename_i _ _ g
        exact Or.inr (cntH_up (by omega) g.2 g.1)
      · exact Or.inl rfl
  · exact Or.inl rfl
theorem itH_fix {k w : Nat → Int} {o : Nat → Bool} {t : HS} {n : Nat} (h : tnH k w o (k 1).toNat (itH k w o n t) = itH k w o n t) (m : Nat) : itH k w o (n + m) t = itH k w o n t := by
  induction m with
  | zero => rfl
  | succ m ih =>
    show tnH k w o (k 1).toNat (itH k w o (n + m) t) = _
    rw [ih, h]
theorem oH.lay {k w : Nat → Int} (hI : Inv k w) (o : Nat → Bool) (p : Nat) (hp : (p : Int) ≤ k 0) : oH k (layH k w o p) := by
  have h0 := hI.1
  induction p with
  | zero => exact fun j => ⟨⟨by show (-1 : Int) ≤ -1; omega, by show (-1 : Int) < 6; omega⟩, fun _ => rfl⟩
  | succ p ih =>
    have ih := ih (by omega)
    unfold layH
    split
    · refine oH.it hI (fun j => ?_) 6
      have e := ih j
      unfold up1
      dsimp only
      by_cases g : j = p
      · rw [if_pos g]; exact ⟨by omega, fun z => by omega⟩
      · rw [if_neg g]; exact e
    · exact ih
/-! the program's way through it -/
noncomputable def P61 (a : Nat) : Prop := a = 62 ∨ a = 63
set_option maxRecDepth 100000 in
theorem s_He_carry {h : AH} {k w : Nat → Int} {r : Nat} {p : Int} {t : HS} {Q : Option AV → AH → Prop} (hR : RC h k w) (hI : Inv k w) (hr : (r : Int) < k 1) (hp : 0 ≤ p ∧ p < k 0) (ht : HT h 62 63 t) (hok : oH k t) (hpq : p ≠ oth k r p)
    (h1 : 0 ≤ t.1 p.toNat → t.1 (oth k r p).toNat < 0 → ∀ h', Sm P61 h h' → HT h' 62 63 (mvH t p (oth k r p) (chg k w r p)) → Q (some (.inl 1)) h')
    (h0 : ¬ (0 ≤ t.1 p.toNat ∧ t.1 (oth k r p).toNat < 0) → Q (some (.inl 0)) h) : AM SC m_He_carry [.inr (.inr 61), .inl r, .inl p] h Q := by
  have hg := hR.1
  have hk0 := hI.1
  have ho := oth_ok hI hr p
  have p6 : p < 6 := by omega
  have q6 : oth k r p < 6 := by omega
  have ep := ht p.toNat (by omega)
  have eq := ht (oth k r p).toNat (by omega)
  have kp := hok p.toNat
  have kq := hok (oth k r p).toNat
  refine AM_of0 rfl rfl (by decide) (Nat.le_of_ble_eq_true rfl) ?_
  refine ok_He_carry.go [] 5 0 ?_; simp only [c_He_carry, op_aload, op_ci, op_getr, op_goto, op_iadd, op_iald, op_iast, op_iceq, op_ifeq, op_ifne, op_iload, op_invV, op_istore, op_zret, mc_Co_changeFrom, ms_Co_changeFrom, mc_Co_hasPlace, ms_Co_hasPlace, mc_Co_otherEnd, ms_Co_otherEnd, wpB, wpJ, List.getD_cons_zero, List.getD_cons_succ, lg, lst, lu, spl, catS, catV, c1, List.mem_cons, List.not_mem_nil, or_false, false_or, or_true, true_or, ite_true, ite_false, if_true, if_false, reduceIte, Nat.zero_le, true_and, and_true, Nat.sub_zero, Nat.sub_self, List.nil_append, List.cons_append, List.append_nil, Option.toList_some, Option.toList_none, List.length_cons, List.length_nil, Nat.reduceAdd, Nat.reduceLeDiff, Nat.reduceEqDiff, reduceCtorEq, false_implies, implies_true, not_false_eq_true, not_true_eq_false, List.replicate_succ, List.replicate_zero, Int.reduceLT, Int.reduceLE, Int.reduceEq, Int.reduceNe, Int.reduceToNat, Int.reduceNeg, Int.reduceAdd, Int.reduceSub, Int.reduceMul, Option.some.injEq, Sum.inl.injEq, Sum.inr.injEq, ne_eq, not_true, not_false_iff, Int.toNat_natCast, forall_const, and_false, false_and, and_self, eq_self, lc_lt, lc_gt, lc_le, lc_eq, Nat.reduceSub, nc_2, nc_5, nc_6, nc_8, nc_9, nc_10, nc_22, nc_30, nc_41, nc_44, nc_59, nc_176, nc_200, nc_1000, nc_2886, nn0, gi_si, gr_si, gl_si, cn_si, gi_sr, gr_sr, gl_sr, cn_sr, gi_sl, gr_sl, gl_sl, cn_sl, SC_0, SC_1, SC_2, SC_3, SC_4, SC_5, SC_6, SC_7, SC_8, SC_9, SC_10, SC_11, SC_12, SC_13, SC_14, SC_15, SC_16, SC_17, SC_18, SC_19, SC_20, SC_21, SC_22, SC_23, SC_24, SC_25, SC_26, SC_27, SC_28, SC_29, SC_30, SC_31, SC_32, SC_33, SC_34, SC_35, SC_36, SC_37, SC_38, SC_39, SC_40, SC_41, SC_42, SC_43, SC_44, SC_45, SC_46, SC_47, SC_48, SC_49, SC_50, SC_51, SC_52, SC_53, SC_54, SC_55, SC_56, SC_57, SC_58, SC_59, SC_60, SC_61, SC_62, SC_63, SC_64, SC_65, SC_66, SC_67, SC_68, SC_69, SC_70, SC_71, SC_72, SC_73, SC_74, SC_75, SC_76, SC_77, SC_78, SC_79, SC_80, SC_81, entL, show m_He_carry.2.2.1 = 4 from rfl, g_61_0 hg, g_61_1 hg, g_61_2 hg]
  refine s_Co_otherEnd hR hI hr ?_
  simp only [c_He_carry, op_aload, op_ci, op_getr, op_goto, op_iadd, op_iald, op_iast, op_iceq, op_ifeq, op_ifne, op_iload, op_invV, op_istore, op_zret, mc_Co_changeFrom, ms_Co_changeFrom, mc_Co_hasPlace, ms_Co_hasPlace, mc_Co_otherEnd, ms_Co_otherEnd, wpB, wpJ, List.getD_cons_zero, List.getD_cons_succ, lg, lst, lu, spl, catS, catV, c1, List.mem_cons, List.not_mem_nil, or_false, false_or, or_true, true_or, ite_true, ite_false, if_true, if_false, reduceIte, Nat.zero_le, true_and, and_true, Nat.sub_zero, Nat.sub_self, List.nil_append, List.cons_append, List.append_nil, Option.toList_some, Option.toList_none, List.length_cons, List.length_nil, Nat.reduceAdd, Nat.reduceLeDiff, Nat.reduceEqDiff, reduceCtorEq, false_implies, implies_true, not_false_eq_true, not_true_eq_false, List.replicate_succ, List.replicate_zero, Int.reduceLT, Int.reduceLE, Int.reduceEq, Int.reduceNe, Int.reduceToNat, Int.reduceNeg, Int.reduceAdd, Int.reduceSub, Int.reduceMul, Option.some.injEq, Sum.inl.injEq, Sum.inr.injEq, ne_eq, not_true, not_false_iff, Int.toNat_natCast, forall_const, and_false, false_and, and_self, eq_self, lc_lt, lc_gt, lc_le, lc_eq, Nat.reduceSub, nc_2, nc_5, nc_6, nc_8, nc_9, nc_10, nc_22, nc_30, nc_41, nc_44, nc_59, nc_176, nc_200, nc_1000, nc_2886, nn0, gi_si, gr_si, gl_si, cn_si, gi_sr, gr_sr, gl_sr, cn_sr, gi_sl, gr_sl, gl_sl, cn_sl, SC_0, SC_1, SC_2, SC_3, SC_4, SC_5, SC_6, SC_7, SC_8, SC_9, SC_10, SC_11, SC_12, SC_13, SC_14, SC_15, SC_16, SC_17, SC_18, SC_19, SC_20, SC_21, SC_22, SC_23, SC_24, SC_25, SC_26, SC_27, SC_28, SC_29, SC_30, SC_31, SC_32, SC_33, SC_34, SC_35, SC_36, SC_37, SC_38, SC_39, SC_40, SC_41, SC_42, SC_43, SC_44, SC_45, SC_46, SC_47, SC_48, SC_49, SC_50, SC_51, SC_52, SC_53, SC_54, SC_55, SC_56, SC_57, SC_58, SC_59, SC_60, SC_61, SC_62, SC_63, SC_64, SC_65, SC_66, SC_67, SC_68, SC_69, SC_70, SC_71, SC_72, SC_73, SC_74, SC_75, SC_76, SC_77, SC_78, SC_79, SC_80, SC_81, g_61_0 hg, g_61_1 hg, g_61_2 hg]
  refine s_Co_hasPlace rfl (fun _ => ?_) (fun g => absurd ⟨hp.1, by rw [hR.2.1.1]; exact hp.2⟩ g)
  simp only [c_He_carry, op_aload, op_ci, op_getr, op_goto, op_iadd, op_iald, op_iast, op_iceq, op_ifeq, op_ifne, op_iload, op_invV, op_istore, op_zret, mc_Co_changeFrom, ms_Co_changeFrom, mc_Co_hasPlace, ms_Co_hasPlace, mc_Co_otherEnd, ms_Co_otherEnd, wpB, wpJ, List.getD_cons_zero, List.getD_cons_succ, lg, lst, lu, spl, catS, catV, c1, List.mem_cons, List.not_mem_nil, or_false, false_or, or_true, true_or, ite_true, ite_false, if_true, if_false, reduceIte, Nat.zero_le, true_and, and_true, Nat.sub_zero, Nat.sub_self, List.nil_append, List.cons_append, List.append_nil, Option.toList_some, Option.toList_none, List.length_cons, List.length_nil, Nat.reduceAdd, Nat.reduceLeDiff, Nat.reduceEqDiff, reduceCtorEq, false_implies, implies_true, not_false_eq_true, not_true_eq_false, List.replicate_succ, List.replicate_zero, Int.reduceLT, Int.reduceLE, Int.reduceEq, Int.reduceNe, Int.reduceToNat, Int.reduceNeg, Int.reduceAdd, Int.reduceSub, Int.reduceMul, Option.some.injEq, Sum.inl.injEq, Sum.inr.injEq, ne_eq, not_true, not_false_iff, Int.toNat_natCast, forall_const, and_false, false_and, and_self, eq_self, lc_lt, lc_gt, lc_le, lc_eq, Nat.reduceSub, nc_2, nc_5, nc_6, nc_8, nc_9, nc_10, nc_22, nc_30, nc_41, nc_44, nc_59, nc_176, nc_200, nc_1000, nc_2886, nn0, gi_si, gr_si, gl_si, cn_si, gi_sr, gr_sr, gl_sr, cn_sr, gi_sl, gr_sl, gl_sl, cn_sl, SC_0, SC_1, SC_2, SC_3, SC_4, SC_5, SC_6, SC_7, SC_8, SC_9, SC_10, SC_11, SC_12, SC_13, SC_14, SC_15, SC_16, SC_17, SC_18, SC_19, SC_20, SC_21, SC_22, SC_23, SC_24, SC_25, SC_26, SC_27, SC_28, SC_29, SC_30, SC_31, SC_32, SC_33, SC_34, SC_35, SC_36, SC_37, SC_38, SC_39, SC_40, SC_41, SC_42, SC_43, SC_44, SC_45, SC_46, SC_47, SC_48, SC_49, SC_50, SC_51, SC_52, SC_53, SC_54, SC_55, SC_56, SC_57, SC_58, SC_59, SC_60, SC_61, SC_62, SC_63, SC_64, SC_65, SC_66, SC_67, SC_68, SC_69, SC_70, SC_71, SC_72, SC_73, SC_74, SC_75, SC_76, SC_77, SC_78, SC_79, SC_80, SC_81, g_61_0 hg, g_61_1 hg, g_61_2 hg]
  refine s_Co_hasPlace rfl (fun _ => ?_) (fun g => absurd ⟨ho.1, by rw [hR.2.1.1]; exact ho.2⟩ g)
  simp only [c_He_carry, op_aload, op_ci, op_getr, op_goto, op_iadd, op_iald, op_iast, op_iceq, op_ifeq, op_ifne, op_iload, op_invV, op_istore, op_zret, mc_Co_changeFrom, ms_Co_changeFrom, mc_Co_hasPlace, ms_Co_hasPlace, mc_Co_otherEnd, ms_Co_otherEnd, wpB, wpJ, List.getD_cons_zero, List.getD_cons_succ, lg, lst, lu, spl, catS, catV, c1, List.mem_cons, List.not_mem_nil, or_false, false_or, or_true, true_or, ite_true, ite_false, if_true, if_false, reduceIte, Nat.zero_le, true_and, and_true, Nat.sub_zero, Nat.sub_self, List.nil_append, List.cons_append, List.append_nil, Option.toList_some, Option.toList_none, List.length_cons, List.length_nil, Nat.reduceAdd, Nat.reduceLeDiff, Nat.reduceEqDiff, reduceCtorEq, false_implies, implies_true, not_false_eq_true, not_true_eq_false, List.replicate_succ, List.replicate_zero, Int.reduceLT, Int.reduceLE, Int.reduceEq, Int.reduceNe, Int.reduceToNat, Int.reduceNeg, Int.reduceAdd, Int.reduceSub, Int.reduceMul, Option.some.injEq, Sum.inl.injEq, Sum.inr.injEq, ne_eq, not_true, not_false_iff, Int.toNat_natCast, forall_const, and_false, false_and, and_self, eq_self, lc_lt, lc_gt, lc_le, lc_eq, Nat.reduceSub, nc_2, nc_5, nc_6, nc_8, nc_9, nc_10, nc_22, nc_30, nc_41, nc_44, nc_59, nc_176, nc_200, nc_1000, nc_2886, nn0, gi_si, gr_si, gl_si, cn_si, gi_sr, gr_sr, gl_sr, cn_sr, gi_sl, gr_sl, gl_sl, cn_sl, SC_0, SC_1, SC_2, SC_3, SC_4, SC_5, SC_6, SC_7, SC_8, SC_9, SC_10, SC_11, SC_12, SC_13, SC_14, SC_15, SC_16, SC_17, SC_18, SC_19, SC_20, SC_21, SC_22, SC_23, SC_24, SC_25, SC_26, SC_27, SC_28, SC_29, SC_30, SC_31, SC_32, SC_33, SC_34, SC_35, SC_36, SC_37, SC_38, SC_39, SC_40, SC_41, SC_42, SC_43, SC_44, SC_45, SC_46, SC_47, SC_48, SC_49, SC_50, SC_51, SC_52, SC_53, SC_54, SC_55, SC_56, SC_57, SC_58, SC_59, SC_60, SC_61, SC_62, SC_63, SC_64, SC_65, SC_66, SC_67, SC_68, SC_69, SC_70, SC_71, SC_72, SC_73, SC_74, SC_75, SC_76, SC_77, SC_78, SC_79, SC_80, SC_81, g_61_0 hg, g_61_1 hg, g_61_2 hg, hp.1, p6, ho.1, q6, ep.1, eq.1]
  refine ⟨fun z => h0 (fun y => by omega), fun z => ⟨fun z2 => ?_, fun z2 => h0 (fun y => by omega)⟩⟩
  have hR1 := hR.sm (Sm.si (P := fun a => a = 62) (h := h) (h' := h) (o := 62) (j := (oth k r p).toNat) (v := t.1 p.toNat) Sm.rfl' rfl) (fun a ha => by omega)
  refine s_Co_changeFrom hR1 hI hr ?_
  simp only [c_He_carry, op_aload, op_ci, op_getr, op_goto, op_iadd, op_iald, op_iast, op_iceq, op_ifeq, op_ifne, op_iload, op_invV, op_istore, op_zret, mc_Co_changeFrom, ms_Co_changeFrom, mc_Co_hasPlace, ms_Co_hasPlace, mc_Co_otherEnd, ms_Co_otherEnd, wpB, wpJ, List.getD_cons_zero, List.getD_cons_succ, lg, lst, lu, spl, catS, catV, c1, List.mem_cons, List.not_mem_nil, or_false, false_or, or_true, true_or, ite_true, ite_false, if_true, if_false, reduceIte, Nat.zero_le, true_and, and_true, Nat.sub_zero, Nat.sub_self, List.nil_append, List.cons_append, List.append_nil, Option.toList_some, Option.toList_none, List.length_cons, List.length_nil, Nat.reduceAdd, Nat.reduceLeDiff, Nat.reduceEqDiff, reduceCtorEq, false_implies, implies_true, not_false_eq_true, not_true_eq_false, List.replicate_succ, List.replicate_zero, Int.reduceLT, Int.reduceLE, Int.reduceEq, Int.reduceNe, Int.reduceToNat, Int.reduceNeg, Int.reduceAdd, Int.reduceSub, Int.reduceMul, Option.some.injEq, Sum.inl.injEq, Sum.inr.injEq, ne_eq, not_true, not_false_iff, Int.toNat_natCast, forall_const, and_false, false_and, and_self, eq_self, lc_lt, lc_gt, lc_le, lc_eq, Nat.reduceSub, nc_2, nc_5, nc_6, nc_8, nc_9, nc_10, nc_22, nc_30, nc_41, nc_44, nc_59, nc_176, nc_200, nc_1000, nc_2886, nn0, gi_si, gr_si, gl_si, cn_si, gi_sr, gr_sr, gl_sr, cn_sr, gi_sl, gr_sl, gl_sl, cn_sl, SC_0, SC_1, SC_2, SC_3, SC_4, SC_5, SC_6, SC_7, SC_8, SC_9, SC_10, SC_11, SC_12, SC_13, SC_14, SC_15, SC_16, SC_17, SC_18, SC_19, SC_20, SC_21, SC_22, SC_23, SC_24, SC_25, SC_26, SC_27, SC_28, SC_29, SC_30, SC_31, SC_32, SC_33, SC_34, SC_35, SC_36, SC_37, SC_38, SC_39, SC_40, SC_41, SC_42, SC_43, SC_44, SC_45, SC_46, SC_47, SC_48, SC_49, SC_50, SC_51, SC_52, SC_53, SC_54, SC_55, SC_56, SC_57, SC_58, SC_59, SC_60, SC_61, SC_62, SC_63, SC_64, SC_65, SC_66, SC_67, SC_68, SC_69, SC_70, SC_71, SC_72, SC_73, SC_74, SC_75, SC_76, SC_77, SC_78, SC_79, SC_80, SC_81, ho.1, q6]
  refine h1 (by omega) (by omega) _ ((Sm.rfl'.si (Or.inl rfl)).si (Or.inr rfl)) ?_
  have e := ht.mv (c := chg k w r p) (by omega) ⟨hp.1, p6⟩ ⟨ho.1, q6⟩ (by omega) hpq
  rw [ep.1] at e
  exact e
theorem cntH_top {k w : Nat → Int} (hI : Inv k w) {t : HS} (hok : oH k t) : cntH t.1 6 ≤ (k 0).toNat := by
  have h0 := hI.1
  have e := cntH_far (f := t.1) (m := (k 0).toNat) (6 - (k 0).toNat) (fun j hj => (hok j).2 (by omega))
  rw [show (k 0).toNat + (6 - (k 0).toNat) = 6 by omega] at e
  rw [e]; exact cntH_le _ _
/-- a PLACE that no other hangs together with yet -/
theorem oH.seed {k : Nat → Int} {t : HS} {p : Nat} (h0 : k 0 ≤ 6) (hp : (p : Int) < k 0) (hok : oH k t) : oH k (up1 t.1 p p, up1 t.2 p 100) := fun j => by
  have e := hok j
  unfold up1
  dsimp only
  by_cases g : j = p
  · rw [if_pos g]; exact ⟨by omega, fun z => by omega⟩
  · rw [if_neg g]; exact e
theorem HT.seed {h : AH} {t : HS} {p : Nat} (ht : HT h 62 63 t) : HT (si (si h 62 p p) 63 p 100) 62 63 (up1 t.1 p p, up1 t.2 p 100) := fun j hj => by
  show _ = up1 t.1 p p j ∧ (0 ≤ up1 t.1 p p j → _ = up1 t.2 p 100 j)
  have e := ht j hj
  unfold up1
  by_cases g : j = p
  · rw [if_pos g, if_pos g]
    refine ⟨?_, fun _ => ?_⟩
    · rw [gi_si, if_neg (by omega), gi_si, if_pos ⟨rfl, g⟩]
    · rw [gi_si, if_pos ⟨rfl, g⟩]
  · rw [if_neg g, if_neg g]
    refine ⟨?_, fun z => ?_⟩
    · rw [gi_si, if_neg (by omega), gi_si, if_neg (fun z => g z.2)]; exact e.1
    · rw [gi_si, if_neg (fun z => g z.2), gi_si, if_neg (by omega)]; exact e.2 z
set_option maxRecDepth 100000 in
theorem s_He_spread {h : AH} {k w : Nat → Int} {bits : Nat} {T0 : HS} {Q : Option AV → AH → Prop} (hR : RC h k w) (hI : Inv k w) (hb : bits < 512) (ht : HT h 62 63 T0) (ok0 : oH k T0) (cn0 : 1 ≤ cntH T0.1 6)
    (hq : ∀ h', Sm P61 h h' → HT h' 62 63 (itH k w (fun r => bits.testBit r) 6 T0) → Q none h') : AM SC m_He_spread [.inr (.inr 61), .inl bits] h Q := by
  have h0 := hI.1
  have hk := hI.2.1
  have hRs : ∀ h', Sm P61 h h' → RC h' k w := fun h' hs => hR.sm hs (fun a ha => by unfold P61 at ha; omega)
  have turns : ∀ (m i c : Nat) (x5 : Option AV) (h' : AH), (k 0).toNat = i + m → Sm P61 h h' → HT h' 62 63 (itH k w (fun r => bits.testBit r) i T0) → (c = 1 ∧ 1 + i ≤ cntH (itH k w (fun r => bits.testBit r) i T0).1 6 ∨ c = 0 ∧ tnH k w (fun r => bits.testBit r) (k 1).toNat (itH k w (fun r => bits.testBit r) i T0) = itH k w (fun r => bits.testBit r) i T0) → AW SC m_He_spread 0 0 (t_He_spread 1) [some (.inr (.inr 61)), some (.inl bits), some (.inl c), some (.inl i), x5] [] h' Q := by
    intro m
    induction m with
    | zero =>
      intro i c x5 h' hi hs hx hc
      have hR' := hRs h' hs
      have hg := hR'.1
      have hok' := ok0.it hI (o := fun r => bits.testBit r) i
      have top := cntH_top hI hok'
      have hc0 : c = 0 ∧ tnH k w (fun r => bits.testBit r) (k 1).toNat (itH k w (fun r => bits.testBit r) i T0) = itH k w (fun r => bits.testBit r) i T0 := by
        rcases hc with z | z
        · omega
        · exact z
      have ei := itH_fix hc0.2 (6 - i)
      rw [show i + (6 - i) = 6 by omega] at ei
      refine ok_He_spread.go [1, 2] 5 1 ?_; simp only [c_He_spread, op_aload, op_ci, op_getr, op_goto, op_iand, op_icge, op_ifeq, op_ifne, op_iinc, op_iload, op_invV, op_ishl, op_istore, op_ret, mc_Co_endOf, ms_Co_endOf, mc_Co_places, ms_Co_places, mc_Co_roads, ms_Co_roads, mc_Co_startOf, ms_Co_startOf, mc_He_carry, ms_He_carry, wpB, wpJ, List.getD_cons_zero, List.getD_cons_succ, lg, lst, lu, spl, catS, catV, c1, List.mem_cons, List.not_mem_nil, or_false, false_or, or_true, true_or, ite_true, ite_false, if_true, if_false, reduceIte, Nat.zero_le, true_and, and_true, Nat.sub_zero, Nat.sub_self, List.nil_append, List.cons_append, List.append_nil, Option.toList_some, Option.toList_none, List.length_cons, List.length_nil, Nat.reduceAdd, Nat.reduceLeDiff, Nat.reduceEqDiff, reduceCtorEq, false_implies, implies_true, not_false_eq_true, not_true_eq_false, List.replicate_succ, List.replicate_zero, Int.reduceLT, Int.reduceLE, Int.reduceEq, Int.reduceNe, Int.reduceToNat, Int.reduceNeg, Int.reduceAdd, Int.reduceSub, Int.reduceMul, Option.some.injEq, Sum.inl.injEq, Sum.inr.injEq, ne_eq, not_true, not_false_iff, Int.toNat_natCast, forall_const, and_false, false_and, and_self, eq_self, lc_lt, lc_gt, lc_le, lc_eq, Nat.reduceSub, nc_2, nc_5, nc_6, nc_8, nc_9, nc_10, nc_22, nc_30, nc_41, nc_44, nc_59, nc_176, nc_200, nc_1000, nc_2886, nn0, gi_si, gr_si, gl_si, cn_si, gi_sr, gr_sr, gl_sr, cn_sr, gi_sl, gr_sl, gl_sl, cn_sl, SC_0, SC_1, SC_2, SC_3, SC_4, SC_5, SC_6, SC_7, SC_8, SC_9, SC_10, SC_11, SC_12, SC_13, SC_14, SC_15, SC_16, SC_17, SC_18, SC_19, SC_20, SC_21, SC_22, SC_23, SC_24, SC_25, SC_26, SC_27, SC_28, SC_29, SC_30, SC_31, SC_32, SC_33, SC_34, SC_35, SC_36, SC_37, SC_38, SC_39, SC_40, SC_41, SC_42, SC_43, SC_44, SC_45, SC_46, SC_47, SC_48, SC_49, SC_50, SC_51, SC_52, SC_53, SC_54, SC_55, SC_56, SC_57, SC_58, SC_59, SC_60, SC_61, SC_62, SC_63, SC_64, SC_65, SC_66, SC_67, SC_68, SC_69, SC_70, SC_71, SC_72, SC_73, SC_74, SC_75, SC_76, SC_77, SC_78, SC_79, SC_80, SC_81, entL, show m_He_spread.2.2.1 = 5 from rfl, g_61_0 hg]
      refine s_Co_places hR' ?_
      simp only [c_He_spread, op_aload, op_ci, op_getr, op_goto, op_iand, op_icge, op_ifeq, op_ifne, op_iinc, op_iload, op_invV, op_ishl, op_istore, op_ret, mc_Co_endOf, ms_Co_endOf, mc_Co_places, ms_Co_places, mc_Co_roads, ms_Co_roads, mc_Co_startOf, ms_Co_startOf, mc_He_carry, ms_He_carry, wpB, wpJ, List.getD_cons_zero, List.getD_cons_succ, lg, lst, lu, spl, catS, catV, c1, List.mem_cons, List.not_mem_nil, or_false, false_or, or_true, true_or, ite_true, ite_false, if_true, if_false, reduceIte, Nat.zero_le, true_and, and_true, Nat.sub_zero, Nat.sub_self, List.nil_append, List.cons_append, List.append_nil, Option.toList_some, Option.toList_none, List.length_cons, List.length_nil, Nat.reduceAdd, Nat.reduceLeDiff, Nat.reduceEqDiff, reduceCtorEq, false_implies, implies_true, not_false_eq_true, not_true_eq_false, List.replicate_succ, List.replicate_zero, Int.reduceLT, Int.reduceLE, Int.reduceEq, Int.reduceNe, Int.reduceToNat, Int.reduceNeg, Int.reduceAdd, Int.reduceSub, Int.reduceMul, Option.some.injEq, Sum.inl.injEq, Sum.inr.injEq, ne_eq, not_true, not_false_iff, Int.toNat_natCast, forall_const, and_false, false_and, and_self, eq_self, lc_lt, lc_gt, lc_le, lc_eq, Nat.reduceSub, nc_2, nc_5, nc_6, nc_8, nc_9, nc_10, nc_22, nc_30, nc_41, nc_44, nc_59, nc_176, nc_200, nc_1000, nc_2886, nn0, gi_si, gr_si, gl_si, cn_si, gi_sr, gr_sr, gl_sr, cn_sr, gi_sl, gr_sl, gl_sl, cn_sl, SC_0, SC_1, SC_2, SC_3, SC_4, SC_5, SC_6, SC_7, SC_8, SC_9, SC_10, SC_11, SC_12, SC_13, SC_14, SC_15, SC_16, SC_17, SC_18, SC_19, SC_20, SC_21, SC_22, SC_23, SC_24, SC_25, SC_26, SC_27, SC_28, SC_29, SC_30, SC_31, SC_32, SC_33, SC_34, SC_35, SC_36, SC_37, SC_38, SC_39, SC_40, SC_41, SC_42, SC_43, SC_44, SC_45, SC_46, SC_47, SC_48, SC_49, SC_50, SC_51, SC_52, SC_53, SC_54, SC_55, SC_56, SC_57, SC_58, SC_59, SC_60, SC_61, SC_62, SC_63, SC_64, SC_65, SC_66, SC_67, SC_68, SC_69, SC_70, SC_71, SC_72, SC_73, SC_74, SC_75, SC_76, SC_77, SC_78, SC_79, SC_80, SC_81]
      refine ⟨fun _ => hq h' hs (by rw [ei]; exact hx), fun q => by omega⟩
    | succ m ih =>
      intro i c x5 h' hi hs hx hc
      have hR' := hRs h' hs
      have hg := hR'.1
      have hok' := ok0.it hI (o := fun r => bits.testBit r) i
      have w1 : wr ((i : Int) + 1) = ((i + 1 : Nat) : Int) := by rw [wr_id (by omega) (by omega)]; omega
      have roads : ∀ (m2 r f : Nat) (h3 : AH), (k 1).toNat = r + m2 → Sm P61 h h3 → HT h3 62 63 (tnH k w (fun r => bits.testBit r) r (itH k w (fun r => bits.testBit r) i T0)) → (f = 1 ∧ cntH (itH k w (fun r => bits.testBit r) i T0).1 6 + 1 ≤ cntH (tnH k w (fun r => bits.testBit r) r (itH k w (fun r => bits.testBit r) i T0)).1 6 ∨ f = 0 ∧ tnH k w (fun r => bits.testBit r) r (itH k w (fun r => bits.testBit r) i T0) = itH k w (fun r => bits.testBit r) i T0) → (1 + i ≤ cntH (itH k w (fun r => bits.testBit r) i T0).1 6) → AW SC m_He_spread 0 0 (t_He_spread 2) [some (.inr (.inr 61)), some (.inl bits), some (.inl f), some (.inl i), some (.inl r)] [] h3 Q := by
        intro m2
        induction m2 with
        | zero =>
          intro r f h3 hr hs3 hx3 hf hci
          have er : r = (k 1).toNat := by omega
          subst er
          have hR3 := hRs h3 hs3
          have hg3 := hR3.1
          refine ok_He_spread.go [1, 2] 5 2 ?_; simp only [c_He_spread, op_aload, op_ci, op_getr, op_goto, op_iand, op_icge, op_ifeq, op_ifne, op_iinc, op_iload, op_invV, op_ishl, op_istore, op_ret, mc_Co_endOf, ms_Co_endOf, mc_Co_places, ms_Co_places, mc_Co_roads, ms_Co_roads, mc_Co_startOf, ms_Co_startOf, mc_He_carry, ms_He_carry, wpB, wpJ, List.getD_cons_zero, List.getD_cons_succ, lg, lst, lu, spl, catS, catV, c1, List.mem_cons, List.not_mem_nil, or_false, false_or, or_true, true_or, ite_true, ite_false, if_true, if_false, reduceIte, Nat.zero_le, true_and, and_true, Nat.sub_zero, Nat.sub_self, List.nil_append, List.cons_append, List.append_nil, Option.toList_some, Option.toList_none, List.length_cons, List.length_nil, Nat.reduceAdd, Nat.reduceLeDiff, Nat.reduceEqDiff, reduceCtorEq, false_implies, implies_true, not_false_eq_true, not_true_eq_false, List.replicate_succ, List.replicate_zero, Int.reduceLT, Int.reduceLE, Int.reduceEq, Int.reduceNe, Int.reduceToNat, Int.reduceNeg, Int.reduceAdd, Int.reduceSub, Int.reduceMul, Option.some.injEq, Sum.inl.injEq, Sum.inr.injEq, ne_eq, not_true, not_false_iff, Int.toNat_natCast, forall_const, and_false, false_and, and_self, eq_self, lc_lt, lc_gt, lc_le, lc_eq, Nat.reduceSub, nc_2, nc_5, nc_6, nc_8, nc_9, nc_10, nc_22, nc_30, nc_41, nc_44, nc_59, nc_176, nc_200, nc_1000, nc_2886, nn0, gi_si, gr_si, gl_si, cn_si, gi_sr, gr_sr, gl_sr, cn_sr, gi_sl, gr_sl, gl_sl, cn_sl, SC_0, SC_1, SC_2, SC_3, SC_4, SC_5, SC_6, SC_7, SC_8, SC_9, SC_10, SC_11, SC_12, SC_13, SC_14, SC_15, SC_16, SC_17, SC_18, SC_19, SC_20, SC_21, SC_22, SC_23, SC_24, SC_25, SC_26, SC_27, SC_28, SC_29, SC_30, SC_31, SC_32, SC_33, SC_34, SC_35, SC_36, SC_37, SC_38, SC_39, SC_40, SC_41, SC_42, SC_43, SC_44, SC_45, SC_46, SC_47, SC_48, SC_49, SC_50, SC_51, SC_52, SC_53, SC_54, SC_55, SC_56, SC_57, SC_58, SC_59, SC_60, SC_61, SC_62, SC_63, SC_64, SC_65, SC_66, SC_67, SC_68, SC_69, SC_70, SC_71, SC_72, SC_73, SC_74, SC_75, SC_76, SC_77, SC_78, SC_79, SC_80, SC_81, entL, show m_He_spread.2.2.1 = 5 from rfl, g_61_0 hg3]
          refine s_Co_roads hR3 ?_
          simp only [c_He_spread, op_aload, op_ci, op_getr, op_goto, op_iand, op_icge, op_ifeq, op_ifne, op_iinc, op_iload, op_invV, op_ishl, op_istore, op_ret, mc_Co_endOf, ms_Co_endOf, mc_Co_places, ms_Co_places, mc_Co_roads, ms_Co_roads, mc_Co_startOf, ms_Co_startOf, mc_He_carry, ms_He_carry, wpB, wpJ, List.getD_cons_zero, List.getD_cons_succ, lg, lst, lu, spl, catS, catV, c1, List.mem_cons, List.not_mem_nil, or_false, false_or, or_true, true_or, ite_true, ite_false, if_true, if_false, reduceIte, Nat.zero_le, true_and, and_true, Nat.sub_zero, Nat.sub_self, List.nil_append, List.cons_append, List.append_nil, Option.toList_some, Option.toList_none, List.length_cons, List.length_nil, Nat.reduceAdd, Nat.reduceLeDiff, Nat.reduceEqDiff, reduceCtorEq, false_implies, implies_true, not_false_eq_true, not_true_eq_false, List.replicate_succ, List.replicate_zero, Int.reduceLT, Int.reduceLE, Int.reduceEq, Int.reduceNe, Int.reduceToNat, Int.reduceNeg, Int.reduceAdd, Int.reduceSub, Int.reduceMul, Option.some.injEq, Sum.inl.injEq, Sum.inr.injEq, ne_eq, not_true, not_false_iff, Int.toNat_natCast, forall_const, and_false, false_and, and_self, eq_self, lc_lt, lc_gt, lc_le, lc_eq, Nat.reduceSub, nc_2, nc_5, nc_6, nc_8, nc_9, nc_10, nc_22, nc_30, nc_41, nc_44, nc_59, nc_176, nc_200, nc_1000, nc_2886, nn0, gi_si, gr_si, gl_si, cn_si, gi_sr, gr_sr, gl_sr, cn_sr, gi_sl, gr_sl, gl_sl, cn_sl, SC_0, SC_1, SC_2, SC_3, SC_4, SC_5, SC_6, SC_7, SC_8, SC_9, SC_10, SC_11, SC_12, SC_13, SC_14, SC_15, SC_16, SC_17, SC_18, SC_19, SC_20, SC_21, SC_22, SC_23, SC_24, SC_25, SC_26, SC_27, SC_28, SC_29, SC_30, SC_31, SC_32, SC_33, SC_34, SC_35, SC_36, SC_37, SC_38, SC_39, SC_40, SC_41, SC_42, SC_43, SC_44, SC_45, SC_46, SC_47, SC_48, SC_49, SC_50, SC_51, SC_52, SC_53, SC_54, SC_55, SC_56, SC_57, SC_58, SC_59, SC_60, SC_61, SC_62, SC_63, SC_64, SC_65, SC_66, SC_67, SC_68, SC_69, SC_70, SC_71, SC_72, SC_73, SC_74, SC_75, SC_76, SC_77, SC_78, SC_79, SC_80, SC_81, w1]
          refine ⟨fun _ => ih (i + 1) f _ h3 (by omega) hs3 hx3 ?_, fun q => by omega⟩
          rcases hf with z | z
          · exact Or.inl ⟨z.1, by show 1 + (i + 1) ≤ cntH (tnH k w _ (k 1).toNat (itH k w _ i T0)).1 6; omega⟩
          · refine Or.inr ⟨z.1, ?_⟩
            show tnH k w _ (k 1).toNat (tnH k w _ (k 1).toNat (itH k w _ i T0)) = tnH k w _ (k 1).toNat (itH k w _ i T0)
            rw [z.2, z.2]
        | succ m2 ih2 =>
          intro r f h3 hr hs3 hx3 hf hci
          have hR3 := hRs h3 hs3
          have hg3 := hR3.1
          have hr1 : (r : Int) < k 1 := by omega
          have hE := hI.2.2.2.1 r hr1
          have hbb := (b_shut bits r hb (by omega)).1
          have wr1 : wr ((r : Int) + 1) = ((r + 1 : Nat) : Int) := by rw [wr_id (by omega) (by omega)]; omega
          have hok3 := hok'.tn hI (o := fun r => bits.testBit r) r (by omega)
          have es : tnH k w (fun r => bits.testBit r) (r + 1) (itH k w (fun r => bits.testBit r) i T0) = crH k w (fun r => bits.testBit r) r (tnH k w (fun r => bits.testBit r) r (itH k w (fun r => bits.testBit r) i T0)) := rfl
          have ih3 := ih2 (r + 1)
          rw [es] at ih3
          generalize tnH k w (fun r => bits.testBit r) r (itH k w (fun r => bits.testBit r) i T0) = V at hx3 hf hok3 ih3
          have same : crH k w (fun r => bits.testBit r) r V = V → AW SC m_He_spread 0 0 (t_He_spread 2) [some (.inr (.inr 61)), some (.inl bits), some (.inl f), some (.inl i), some (.inl ((r + 1 : Nat) : Int))] [] h3 Q := fun e => ih3 f h3 (by omega) hs3 (by rw [e]; exact hx3) (by rw [e]; exact hf) hci
          have moved : ∀ h4 : AH, Sm P61 h3 h4 → HT h4 62 63 (crH k w (fun r => bits.testBit r) r V) → crH k w (fun r => bits.testBit r) r V ≠ V → AW SC m_He_spread 0 0 (t_He_spread 2) [some (.inr (.inr 61)), some (.inl bits), some (.inl 1), some (.inl i), some (.inl ((r + 1 : Nat) : Int))] [] h4 Q := fun h4 hs4 hx4 e => by
            have ec : cntH (crH k w (fun r => bits.testBit r) r V).1 6 = cntH V.1 6 + 1 := by
              rcases crH_cnt hI (o := fun r => bits.testBit r) (t := V) hr1 with z | z
              · exact absurd z e
              · exact z
            refine ih3 1 h4 (by omega) (hs3.trans hs4) hx4 (Or.inl ⟨rfl, ?_⟩) hci
            rcases hf with z | z
            · omega
            · rw [← z.2]; omega
          have o1 : oth k r (k (14 + r)) = k (23 + r) := by unfold oth; rw [if_pos rfl]
          have o2 : oth k r (k (23 + r)) = k (14 + r) := by unfold oth; rw [if_neg (by omega)]
          refine ok_He_spread.go [1, 2] 5 2 ?_; simp only [c_He_spread, op_aload, op_ci, op_getr, op_goto, op_iand, op_icge, op_ifeq, op_ifne, op_iinc, op_iload, op_invV, op_ishl, op_istore, op_ret, mc_Co_endOf, ms_Co_endOf, mc_Co_places, ms_Co_places, mc_Co_roads, ms_Co_roads, mc_Co_startOf, ms_Co_startOf, mc_He_carry, ms_He_carry, wpB, wpJ, List.getD_cons_zero, List.getD_cons_succ, lg, lst, lu, spl, catS, catV, c1, List.mem_cons, List.not_mem_nil, or_false, false_or, or_true, true_or, ite_true, ite_false, if_true, if_false, reduceIte, Nat.zero_le, true_and, and_true, Nat.sub_zero, Nat.sub_self, List.nil_append, List.cons_append, List.append_nil, Option.toList_some, Option.toList_none, List.length_cons, List.length_nil, Nat.reduceAdd, Nat.reduceLeDiff, Nat.reduceEqDiff, reduceCtorEq, false_implies, implies_true, not_false_eq_true, not_true_eq_false, List.replicate_succ, List.replicate_zero, Int.reduceLT, Int.reduceLE, Int.reduceEq, Int.reduceNe, Int.reduceToNat, Int.reduceNeg, Int.reduceAdd, Int.reduceSub, Int.reduceMul, Option.some.injEq, Sum.inl.injEq, Sum.inr.injEq, ne_eq, not_true, not_false_iff, Int.toNat_natCast, forall_const, and_false, false_and, and_self, eq_self, lc_lt, lc_gt, lc_le, lc_eq, Nat.reduceSub, nc_2, nc_5, nc_6, nc_8, nc_9, nc_10, nc_22, nc_30, nc_41, nc_44, nc_59, nc_176, nc_200, nc_1000, nc_2886, nn0, gi_si, gr_si, gl_si, cn_si, gi_sr, gr_sr, gl_sr, cn_sr, gi_sl, gr_sl, gl_sl, cn_sl, SC_0, SC_1, SC_2, SC_3, SC_4, SC_5, SC_6, SC_7, SC_8, SC_9, SC_10, SC_11, SC_12, SC_13, SC_14, SC_15, SC_16, SC_17, SC_18, SC_19, SC_20, SC_21, SC_22, SC_23, SC_24, SC_25, SC_26, SC_27, SC_28, SC_29, SC_30, SC_31, SC_32, SC_33, SC_34, SC_35, SC_36, SC_37, SC_38, SC_39, SC_40, SC_41, SC_42, SC_43, SC_44, SC_45, SC_46, SC_47, SC_48, SC_49, SC_50, SC_51, SC_52, SC_53, SC_54, SC_55, SC_56, SC_57, SC_58, SC_59, SC_60, SC_61, SC_62, SC_63, SC_64, SC_65, SC_66, SC_67, SC_68, SC_69, SC_70, SC_71, SC_72, SC_73, SC_74, SC_75, SC_76, SC_77, SC_78, SC_79, SC_80, SC_81, entL, show m_He_spread.2.2.1 = 5 from rfl, g_61_0 hg3, hbb, wr1]
          refine s_Co_roads hR3 ?_
          simp only [c_He_spread, op_aload, op_ci, op_getr, op_goto, op_iand, op_icge, op_ifeq, op_ifne, op_iinc, op_iload, op_invV, op_ishl, op_istore, op_ret, mc_Co_endOf, ms_Co_endOf, mc_Co_places, ms_Co_places, mc_Co_roads, ms_Co_roads, mc_Co_startOf, ms_Co_startOf, mc_He_carry, ms_He_carry, wpB, wpJ, List.getD_cons_zero, List.getD_cons_succ, lg, lst, lu, spl, catS, catV, c1, List.mem_cons, List.not_mem_nil, or_false, false_or, or_true, true_or, ite_true, ite_false, if_true, if_false, reduceIte, Nat.zero_le, true_and, and_true, Nat.sub_zero, Nat.sub_self, List.nil_append, List.cons_append, List.append_nil, Option.toList_some, Option.toList_none, List.length_cons, List.length_nil, Nat.reduceAdd, Nat.reduceLeDiff, Nat.reduceEqDiff, reduceCtorEq, false_implies, implies_true, not_false_eq_true, not_true_eq_false, List.replicate_succ, List.replicate_zero, Int.reduceLT, Int.reduceLE, Int.reduceEq, Int.reduceNe, Int.reduceToNat, Int.reduceNeg, Int.reduceAdd, Int.reduceSub, Int.reduceMul, Option.some.injEq, Sum.inl.injEq, Sum.inr.injEq, ne_eq, not_true, not_false_iff, Int.toNat_natCast, forall_const, and_false, false_and, and_self, eq_self, lc_lt, lc_gt, lc_le, lc_eq, Nat.reduceSub, nc_2, nc_5, nc_6, nc_8, nc_9, nc_10, nc_22, nc_30, nc_41, nc_44, nc_59, nc_176, nc_200, nc_1000, nc_2886, nn0, gi_si, gr_si, gl_si, cn_si, gi_sr, gr_sr, gl_sr, cn_sr, gi_sl, gr_sl, gl_sl, cn_sl, SC_0, SC_1, SC_2, SC_3, SC_4, SC_5, SC_6, SC_7, SC_8, SC_9, SC_10, SC_11, SC_12, SC_13, SC_14, SC_15, SC_16, SC_17, SC_18, SC_19, SC_20, SC_21, SC_22, SC_23, SC_24, SC_25, SC_26, SC_27, SC_28, SC_29, SC_30, SC_31, SC_32, SC_33, SC_34, SC_35, SC_36, SC_37, SC_38, SC_39, SC_40, SC_41, SC_42, SC_43, SC_44, SC_45, SC_46, SC_47, SC_48, SC_49, SC_50, SC_51, SC_52, SC_53, SC_54, SC_55, SC_56, SC_57, SC_58, SC_59, SC_60, SC_61, SC_62, SC_63, SC_64, SC_65, SC_66, SC_67, SC_68, SC_69, SC_70, SC_71, SC_72, SC_73, SC_74, SC_75, SC_76, SC_77, SC_78, SC_79, SC_80, SC_81, g_61_0 hg3, hbb, wr1]
          refine ⟨fun q => by omega, fun _ => ⟨fun z => ?_, fun z => ?_⟩⟩
          · refine same ?_
            unfold crH; dsimp only; rw [if_neg (by rw [z]; decide)]
          · have zt : bits.testBit r = true := by cases hz : bits.testBit r; exact absurd hz z; rfl
            refine s_Co_startOf hR3 hI hr1 ?_
            simp only [c_He_spread, op_aload, op_ci, op_getr, op_goto, op_iand, op_icge, op_ifeq, op_ifne, op_iinc, op_iload, op_invV, op_ishl, op_istore, op_ret, mc_Co_endOf, ms_Co_endOf, mc_Co_places, ms_Co_places, mc_Co_roads, ms_Co_roads, mc_Co_startOf, ms_Co_startOf, mc_He_carry, ms_He_carry, wpB, wpJ, List.getD_cons_zero, List.getD_cons_succ, lg, lst, lu, spl, catS, catV, c1, List.mem_cons, List.not_mem_nil, or_false, false_or, or_true, true_or, ite_true, ite_false, if_true, if_false, reduceIte, Nat.zero_le, true_and, and_true, Nat.sub_zero, Nat.sub_self, List.nil_append, List.cons_append, List.append_nil, Option.toList_some, Option.toList_none, List.length_cons, List.length_nil, Nat.reduceAdd, Nat.reduceLeDiff, Nat.reduceEqDiff, reduceCtorEq, false_implies, implies_true, not_false_eq_true, not_true_eq_false, List.replicate_succ, List.replicate_zero, Int.reduceLT, Int.reduceLE, Int.reduceEq, Int.reduceNe, Int.reduceToNat, Int.reduceNeg, Int.reduceAdd, Int.reduceSub, Int.reduceMul, Option.some.injEq, Sum.inl.injEq, Sum.inr.injEq, ne_eq, not_true, not_false_iff, Int.toNat_natCast, forall_const, and_false, false_and, and_self, eq_self, lc_lt, lc_gt, lc_le, lc_eq, Nat.reduceSub, nc_2, nc_5, nc_6, nc_8, nc_9, nc_10, nc_22, nc_30, nc_41, nc_44, nc_59, nc_176, nc_200, nc_1000, nc_2886, nn0, gi_si, gr_si, gl_si, cn_si, gi_sr, gr_sr, gl_sr, cn_sr, gi_sl, gr_sl, gl_sl, cn_sl, SC_0, SC_1, SC_2, SC_3, SC_4, SC_5, SC_6, SC_7, SC_8, SC_9, SC_10, SC_11, SC_12, SC_13, SC_14, SC_15, SC_16, SC_17, SC_18, SC_19, SC_20, SC_21, SC_22, SC_23, SC_24, SC_25, SC_26, SC_27, SC_28, SC_29, SC_30, SC_31, SC_32, SC_33, SC_34, SC_35, SC_36, SC_37, SC_38, SC_39, SC_40, SC_41, SC_42, SC_43, SC_44, SC_45, SC_46, SC_47, SC_48, SC_49, SC_50, SC_51, SC_52, SC_53, SC_54, SC_55, SC_56, SC_57, SC_58, SC_59, SC_60, SC_61, SC_62, SC_63, SC_64, SC_65, SC_66, SC_67, SC_68, SC_69, SC_70, SC_71, SC_72, SC_73, SC_74, SC_75, SC_76, SC_77, SC_78, SC_79, SC_80, SC_81, g_61_0 hg3]
            refine s_He_carry hR3 hI hr1 hE.2.1 hx3 hok3 (by rw [o1]; exact hE.2.2.2.1) (fun g1 g2 h4 hs4 hx4 => ?_) (fun g => ?_)
            · rw [o1] at g2 hx4
              have e : crH k w (fun r => bits.testBit r) r V = mvH V (k (14 + r)) (k (23 + r)) (chg k w r (k (14 + r))) := by unfold crH; dsimp only; rw [if_pos zt, if_pos ⟨g1, g2⟩]
              simp only [c_He_spread, op_aload, op_ci, op_getr, op_goto, op_iand, op_icge, op_ifeq, op_ifne, op_iinc, op_iload, op_invV, op_ishl, op_istore, op_ret, mc_Co_endOf, ms_Co_endOf, mc_Co_places, ms_Co_places, mc_Co_roads, ms_Co_roads, mc_Co_startOf, ms_Co_startOf, mc_He_carry, ms_He_carry, wpB, wpJ, List.getD_cons_zero, List.getD_cons_succ, lg, lst, lu, spl, catS, catV, c1, List.mem_cons, List.not_mem_nil, or_false, false_or, or_true, true_or, ite_true, ite_false, if_true, if_false, reduceIte, Nat.zero_le, true_and, and_true, Nat.sub_zero, Nat.sub_self, List.nil_append, List.cons_append, List.append_nil, Option.toList_some, Option.toList_none, List.length_cons, List.length_nil, Nat.reduceAdd, Nat.reduceLeDiff, Nat.reduceEqDiff, reduceCtorEq, false_implies, implies_true, not_false_eq_true, not_true_eq_false, List.replicate_succ, List.replicate_zero, Int.reduceLT, Int.reduceLE, Int.reduceEq, Int.reduceNe, Int.reduceToNat, Int.reduceNeg, Int.reduceAdd, Int.reduceSub, Int.reduceMul, Option.some.injEq, Sum.inl.injEq, Sum.inr.injEq, ne_eq, not_true, not_false_iff, Int.toNat_natCast, forall_const, and_false, false_and, and_self, eq_self, lc_lt, lc_gt, lc_le, lc_eq, Nat.reduceSub, nc_2, nc_5, nc_6, nc_8, nc_9, nc_10, nc_22, nc_30, nc_41, nc_44, nc_59, nc_176, nc_200, nc_1000, nc_2886, nn0, gi_si, gr_si, gl_si, cn_si, gi_sr, gr_sr, gl_sr, cn_sr, gi_sl, gr_sl, gl_sl, cn_sl, SC_0, SC_1, SC_2, SC_3, SC_4, SC_5, SC_6, SC_7, SC_8, SC_9, SC_10, SC_11, SC_12, SC_13, SC_14, SC_15, SC_16, SC_17, SC_18, SC_19, SC_20, SC_21, SC_22, SC_23, SC_24, SC_25, SC_26, SC_27, SC_28, SC_29, SC_30, SC_31, SC_32, SC_33, SC_34, SC_35, SC_36, SC_37, SC_38, SC_39, SC_40, SC_41, SC_42, SC_43, SC_44, SC_45, SC_46, SC_47, SC_48, SC_49, SC_50, SC_51, SC_52, SC_53, SC_54, SC_55, SC_56, SC_57, SC_58, SC_59, SC_60, SC_61, SC_62, SC_63, SC_64, SC_65, SC_66, SC_67, SC_68, SC_69, SC_70, SC_71, SC_72, SC_73, SC_74, SC_75, SC_76, SC_77, SC_78, SC_79, SC_80, SC_81, wr1]
              refine moved h4 hs4 (by rw [e]; exact hx4) (fun y => ?_)
              have := congrArg (fun T : HS => T.1 (k (23 + r)).toNat) (e.symm.trans y)
              try dsimp only at this
              unfold mvH up1 at this
              try dsimp only at this
              rw [if_pos rfl] at this
              omega
            · rw [o1] at g
              simp only [c_He_spread, op_aload, op_ci, op_getr, op_goto, op_iand, op_icge, op_ifeq, op_ifne, op_iinc, op_iload, op_invV, op_ishl, op_istore, op_ret, mc_Co_endOf, ms_Co_endOf, mc_Co_places, ms_Co_places, mc_Co_roads, ms_Co_roads, mc_Co_startOf, ms_Co_startOf, mc_He_carry, ms_He_carry, wpB, wpJ, List.getD_cons_zero, List.getD_cons_succ, lg, lst, lu, spl, catS, catV, c1, List.mem_cons, List.not_mem_nil, or_false, false_or, or_true, true_or, ite_true, ite_false, if_true, if_false, reduceIte, Nat.zero_le, true_and, and_true, Nat.sub_zero, Nat.sub_self, List.nil_append, List.cons_append, List.append_nil, Option.toList_some, Option.toList_none, List.length_cons, List.length_nil, Nat.reduceAdd, Nat.reduceLeDiff, Nat.reduceEqDiff, reduceCtorEq, false_implies, implies_true, not_false_eq_true, not_true_eq_false, List.replicate_succ, List.replicate_zero, Int.reduceLT, Int.reduceLE, Int.reduceEq, Int.reduceNe, Int.reduceToNat, Int.reduceNeg, Int.reduceAdd, Int.reduceSub, Int.reduceMul, Option.some.injEq, Sum.inl.injEq, Sum.inr.injEq, ne_eq, not_true, not_false_iff, Int.toNat_natCast, forall_const, and_false, false_and, and_self, eq_self, lc_lt, lc_gt, lc_le, lc_eq, Nat.reduceSub, nc_2, nc_5, nc_6, nc_8, nc_9, nc_10, nc_22, nc_30, nc_41, nc_44, nc_59, nc_176, nc_200, nc_1000, nc_2886, nn0, gi_si, gr_si, gl_si, cn_si, gi_sr, gr_sr, gl_sr, cn_sr, gi_sl, gr_sl, gl_sl, cn_sl, SC_0, SC_1, SC_2, SC_3, SC_4, SC_5, SC_6, SC_7, SC_8, SC_9, SC_10, SC_11, SC_12, SC_13, SC_14, SC_15, SC_16, SC_17, SC_18, SC_19, SC_20, SC_21, SC_22, SC_23, SC_24, SC_25, SC_26, SC_27, SC_28, SC_29, SC_30, SC_31, SC_32, SC_33, SC_34, SC_35, SC_36, SC_37, SC_38, SC_39, SC_40, SC_41, SC_42, SC_43, SC_44, SC_45, SC_46, SC_47, SC_48, SC_49, SC_50, SC_51, SC_52, SC_53, SC_54, SC_55, SC_56, SC_57, SC_58, SC_59, SC_60, SC_61, SC_62, SC_63, SC_64, SC_65, SC_66, SC_67, SC_68, SC_69, SC_70, SC_71, SC_72, SC_73, SC_74, SC_75, SC_76, SC_77, SC_78, SC_79, SC_80, SC_81, g_61_0 hg3]
              refine s_Co_endOf hR3 hI hr1 ?_
              simp only [c_He_spread, op_aload, op_ci, op_getr, op_goto, op_iand, op_icge, op_ifeq, op_ifne, op_iinc, op_iload, op_invV, op_ishl, op_istore, op_ret, mc_Co_endOf, ms_Co_endOf, mc_Co_places, ms_Co_places, mc_Co_roads, ms_Co_roads, mc_Co_startOf, ms_Co_startOf, mc_He_carry, ms_He_carry, wpB, wpJ, List.getD_cons_zero, List.getD_cons_succ, lg, lst, lu, spl, catS, catV, c1, List.mem_cons, List.not_mem_nil, or_false, false_or, or_true, true_or, ite_true, ite_false, if_true, if_false, reduceIte, Nat.zero_le, true_and, and_true, Nat.sub_zero, Nat.sub_self, List.nil_append, List.cons_append, List.append_nil, Option.toList_some, Option.toList_none, List.length_cons, List.length_nil, Nat.reduceAdd, Nat.reduceLeDiff, Nat.reduceEqDiff, reduceCtorEq, false_implies, implies_true, not_false_eq_true, not_true_eq_false, List.replicate_succ, List.replicate_zero, Int.reduceLT, Int.reduceLE, Int.reduceEq, Int.reduceNe, Int.reduceToNat, Int.reduceNeg, Int.reduceAdd, Int.reduceSub, Int.reduceMul, Option.some.injEq, Sum.inl.injEq, Sum.inr.injEq, ne_eq, not_true, not_false_iff, Int.toNat_natCast, forall_const, and_false, false_and, and_self, eq_self, lc_lt, lc_gt, lc_le, lc_eq, Nat.reduceSub, nc_2, nc_5, nc_6, nc_8, nc_9, nc_10, nc_22, nc_30, nc_41, nc_44, nc_59, nc_176, nc_200, nc_1000, nc_2886, nn0, gi_si, gr_si, gl_si, cn_si, gi_sr, gr_sr, gl_sr, cn_sr, gi_sl, gr_sl, gl_sl, cn_sl, SC_0, SC_1, SC_2, SC_3, SC_4, SC_5, SC_6, SC_7, SC_8, SC_9, SC_10, SC_11, SC_12, SC_13, SC_14, SC_15, SC_16, SC_17, SC_18, SC_19, SC_20, SC_21, SC_22, SC_23, SC_24, SC_25, SC_26, SC_27, SC_28, SC_29, SC_30, SC_31, SC_32, SC_33, SC_34, SC_35, SC_36, SC_37, SC_38, SC_39, SC_40, SC_41, SC_42, SC_43, SC_44, SC_45, SC_46, SC_47, SC_48, SC_49, SC_50, SC_51, SC_52, SC_53, SC_54, SC_55, SC_56, SC_57, SC_58, SC_59, SC_60, SC_61, SC_62, SC_63, SC_64, SC_65, SC_66, SC_67, SC_68, SC_69, SC_70, SC_71, SC_72, SC_73, SC_74, SC_75, SC_76, SC_77, SC_78, SC_79, SC_80, SC_81, g_61_0 hg3]
              refine s_He_carry hR3 hI hr1 hE.2.2.1 hx3 hok3 (by rw [o2]; exact fun y => hE.2.2.2.1 y.symm) (fun g1 g2 h4 hs4 hx4 => ?_) (fun g2 => ?_)
              · rw [o2] at g2 hx4
                have e : crH k w (fun r => bits.testBit r) r V = mvH V (k (23 + r)) (k (14 + r)) (chg k w r (k (23 + r))) := by unfold crH; dsimp only; rw [if_pos zt, if_neg g, if_pos ⟨g1, g2⟩]
                simp only [c_He_spread, op_aload, op_ci, op_getr, op_goto, op_iand, op_icge, op_ifeq, op_ifne, op_iinc, op_iload, op_invV, op_ishl, op_istore, op_ret, mc_Co_endOf, ms_Co_endOf, mc_Co_places, ms_Co_places, mc_Co_roads, ms_Co_roads, mc_Co_startOf, ms_Co_startOf, mc_He_carry, ms_He_carry, wpB, wpJ, List.getD_cons_zero, List.getD_cons_succ, lg, lst, lu, spl, catS, catV, c1, List.mem_cons, List.not_mem_nil, or_false, false_or, or_true, true_or, ite_true, ite_false, if_true, if_false, reduceIte, Nat.zero_le, true_and, and_true, Nat.sub_zero, Nat.sub_self, List.nil_append, List.cons_append, List.append_nil, Option.toList_some, Option.toList_none, List.length_cons, List.length_nil, Nat.reduceAdd, Nat.reduceLeDiff, Nat.reduceEqDiff, reduceCtorEq, false_implies, implies_true, not_false_eq_true, not_true_eq_false, List.replicate_succ, List.replicate_zero, Int.reduceLT, Int.reduceLE, Int.reduceEq, Int.reduceNe, Int.reduceToNat, Int.reduceNeg, Int.reduceAdd, Int.reduceSub, Int.reduceMul, Option.some.injEq, Sum.inl.injEq, Sum.inr.injEq, ne_eq, not_true, not_false_iff, Int.toNat_natCast, forall_const, and_false, false_and, and_self, eq_self, lc_lt, lc_gt, lc_le, lc_eq, Nat.reduceSub, nc_2, nc_5, nc_6, nc_8, nc_9, nc_10, nc_22, nc_30, nc_41, nc_44, nc_59, nc_176, nc_200, nc_1000, nc_2886, nn0, gi_si, gr_si, gl_si, cn_si, gi_sr, gr_sr, gl_sr, cn_sr, gi_sl, gr_sl, gl_sl, cn_sl, SC_0, SC_1, SC_2, SC_3, SC_4, SC_5, SC_6, SC_7, SC_8, SC_9, SC_10, SC_11, SC_12, SC_13, SC_14, SC_15, SC_16, SC_17, SC_18, SC_19, SC_20, SC_21, SC_22, SC_23, SC_24, SC_25, SC_26, SC_27, SC_28, SC_29, SC_30, SC_31, SC_32, SC_33, SC_34, SC_35, SC_36, SC_37, SC_38, SC_39, SC_40, SC_41, SC_42, SC_43, SC_44, SC_45, SC_46, SC_47, SC_48, SC_49, SC_50, SC_51, SC_52, SC_53, SC_54, SC_55, SC_56, SC_57, SC_58, SC_59, SC_60, SC_61, SC_62, SC_63, SC_64, SC_65, SC_66, SC_67, SC_68, SC_69, SC_70, SC_71, SC_72, SC_73, SC_74, SC_75, SC_76, SC_77, SC_78, SC_79, SC_80, SC_81, wr1]
                refine moved h4 hs4 (by rw [e]; exact hx4) (fun y => ?_)
                have := congrArg (fun T : HS => T.1 (k (14 + r)).toNat) (e.symm.trans y)
                try dsimp only at this
                unfold mvH up1 at this
                try dsimp only at this
                rw [if_pos rfl] at this
                omega
              · rw [o2] at g2
                simp only [c_He_spread, op_aload, op_ci, op_getr, op_goto, op_iand, op_icge, op_ifeq, op_ifne, op_iinc, op_iload, op_invV, op_ishl, op_istore, op_ret, mc_Co_endOf, ms_Co_endOf, mc_Co_places, ms_Co_places, mc_Co_roads, ms_Co_roads, mc_Co_startOf, ms_Co_startOf, mc_He_carry, ms_He_carry, wpB, wpJ, List.getD_cons_zero, List.getD_cons_succ, lg, lst, lu, spl, catS, catV, c1, List.mem_cons, List.not_mem_nil, or_false, false_or, or_true, true_or, ite_true, ite_false, if_true, if_false, reduceIte, Nat.zero_le, true_and, and_true, Nat.sub_zero, Nat.sub_self, List.nil_append, List.cons_append, List.append_nil, Option.toList_some, Option.toList_none, List.length_cons, List.length_nil, Nat.reduceAdd, Nat.reduceLeDiff, Nat.reduceEqDiff, reduceCtorEq, false_implies, implies_true, not_false_eq_true, not_true_eq_false, List.replicate_succ, List.replicate_zero, Int.reduceLT, Int.reduceLE, Int.reduceEq, Int.reduceNe, Int.reduceToNat, Int.reduceNeg, Int.reduceAdd, Int.reduceSub, Int.reduceMul, Option.some.injEq, Sum.inl.injEq, Sum.inr.injEq, ne_eq, not_true, not_false_iff, Int.toNat_natCast, forall_const, and_false, false_and, and_self, eq_self, lc_lt, lc_gt, lc_le, lc_eq, Nat.reduceSub, nc_2, nc_5, nc_6, nc_8, nc_9, nc_10, nc_22, nc_30, nc_41, nc_44, nc_59, nc_176, nc_200, nc_1000, nc_2886, nn0, gi_si, gr_si, gl_si, cn_si, gi_sr, gr_sr, gl_sr, cn_sr, gi_sl, gr_sl, gl_sl, cn_sl, SC_0, SC_1, SC_2, SC_3, SC_4, SC_5, SC_6, SC_7, SC_8, SC_9, SC_10, SC_11, SC_12, SC_13, SC_14, SC_15, SC_16, SC_17, SC_18, SC_19, SC_20, SC_21, SC_22, SC_23, SC_24, SC_25, SC_26, SC_27, SC_28, SC_29, SC_30, SC_31, SC_32, SC_33, SC_34, SC_35, SC_36, SC_37, SC_38, SC_39, SC_40, SC_41, SC_42, SC_43, SC_44, SC_45, SC_46, SC_47, SC_48, SC_49, SC_50, SC_51, SC_52, SC_53, SC_54, SC_55, SC_56, SC_57, SC_58, SC_59, SC_60, SC_61, SC_62, SC_63, SC_64, SC_65, SC_66, SC_67, SC_68, SC_69, SC_70, SC_71, SC_72, SC_73, SC_74, SC_75, SC_76, SC_77, SC_78, SC_79, SC_80, SC_81, wr1]
                refine same ?_
                unfold crH; dsimp only; rw [if_pos zt, if_neg g, if_neg g2]
      have hci : c = 1 → 1 + i ≤ cntH (itH k w (fun r => bits.testBit r) i T0).1 6 := fun z => by omega
      refine ok_He_spread.go [1, 2] 5 1 ?_; simp only [c_He_spread, op_aload, op_ci, op_getr, op_goto, op_iand, op_icge, op_ifeq, op_ifne, op_iinc, op_iload, op_invV, op_ishl, op_istore, op_ret, mc_Co_endOf, ms_Co_endOf, mc_Co_places, ms_Co_places, mc_Co_roads, ms_Co_roads, mc_Co_startOf, ms_Co_startOf, mc_He_carry, ms_He_carry, wpB, wpJ, List.getD_cons_zero, List.getD_cons_succ, lg, lst, lu, spl, catS, catV, c1, List.mem_cons, List.not_mem_nil, or_false, false_or, or_true, true_or, ite_true, ite_false, if_true, if_false, reduceIte, Nat.zero_le, true_and, and_true, Nat.sub_zero, Nat.sub_self, List.nil_append, List.cons_append, List.append_nil, Option.toList_some, Option.toList_none, List.length_cons, List.length_nil, Nat.reduceAdd, Nat.reduceLeDiff, Nat.reduceEqDiff, reduceCtorEq, false_implies, implies_true, not_false_eq_true, not_true_eq_false, List.replicate_succ, List.replicate_zero, Int.reduceLT, Int.reduceLE, Int.reduceEq, Int.reduceNe, Int.reduceToNat, Int.reduceNeg, Int.reduceAdd, Int.reduceSub, Int.reduceMul, Option.some.injEq, Sum.inl.injEq, Sum.inr.injEq, ne_eq, not_true, not_false_iff, Int.toNat_natCast, forall_const, and_false, false_and, and_self, eq_self, lc_lt, lc_gt, lc_le, lc_eq, Nat.reduceSub, nc_2, nc_5, nc_6, nc_8, nc_9, nc_10, nc_22, nc_30, nc_41, nc_44, nc_59, nc_176, nc_200, nc_1000, nc_2886, nn0, gi_si, gr_si, gl_si, cn_si, gi_sr, gr_sr, gl_sr, cn_sr, gi_sl, gr_sl, gl_sl, cn_sl, SC_0, SC_1, SC_2, SC_3, SC_4, SC_5, SC_6, SC_7, SC_8, SC_9, SC_10, SC_11, SC_12, SC_13, SC_14, SC_15, SC_16, SC_17, SC_18, SC_19, SC_20, SC_21, SC_22, SC_23, SC_24, SC_25, SC_26, SC_27, SC_28, SC_29, SC_30, SC_31, SC_32, SC_33, SC_34, SC_35, SC_36, SC_37, SC_38, SC_39, SC_40, SC_41, SC_42, SC_43, SC_44, SC_45, SC_46, SC_47, SC_48, SC_49, SC_50, SC_51, SC_52, SC_53, SC_54, SC_55, SC_56, SC_57, SC_58, SC_59, SC_60, SC_61, SC_62, SC_63, SC_64, SC_65, SC_66, SC_67, SC_68, SC_69, SC_70, SC_71, SC_72, SC_73, SC_74, SC_75, SC_76, SC_77, SC_78, SC_79, SC_80, SC_81, entL, show m_He_spread.2.2.1 = 5 from rfl, g_61_0 hg]
      refine s_Co_places hR' ?_
      simp only [c_He_spread, op_aload, op_ci, op_getr, op_goto, op_iand, op_icge, op_ifeq, op_ifne, op_iinc, op_iload, op_invV, op_ishl, op_istore, op_ret, mc_Co_endOf, ms_Co_endOf, mc_Co_places, ms_Co_places, mc_Co_roads, ms_Co_roads, mc_Co_startOf, ms_Co_startOf, mc_He_carry, ms_He_carry, wpB, wpJ, List.getD_cons_zero, List.getD_cons_succ, lg, lst, lu, spl, catS, catV, c1, List.mem_cons, List.not_mem_nil, or_false, false_or, or_true, true_or, ite_true, ite_false, if_true, if_false, reduceIte, Nat.zero_le, true_and, and_true, Nat.sub_zero, Nat.sub_self, List.nil_append, List.cons_append, List.append_nil, Option.toList_some, Option.toList_none, List.length_cons, List.length_nil, Nat.reduceAdd, Nat.reduceLeDiff, Nat.reduceEqDiff, reduceCtorEq, false_implies, implies_true, not_false_eq_true, not_true_eq_false, List.replicate_succ, List.replicate_zero, Int.reduceLT, Int.reduceLE, Int.reduceEq, Int.reduceNe, Int.reduceToNat, Int.reduceNeg, Int.reduceAdd, Int.reduceSub, Int.reduceMul, Option.some.injEq, Sum.inl.injEq, Sum.inr.injEq, ne_eq, not_true, not_false_iff, Int.toNat_natCast, forall_const, and_false, false_and, and_self, eq_self, lc_lt, lc_gt, lc_le, lc_eq, Nat.reduceSub, nc_2, nc_5, nc_6, nc_8, nc_9, nc_10, nc_22, nc_30, nc_41, nc_44, nc_59, nc_176, nc_200, nc_1000, nc_2886, nn0, gi_si, gr_si, gl_si, cn_si, gi_sr, gr_sr, gl_sr, cn_sr, gi_sl, gr_sl, gl_sl, cn_sl, SC_0, SC_1, SC_2, SC_3, SC_4, SC_5, SC_6, SC_7, SC_8, SC_9, SC_10, SC_11, SC_12, SC_13, SC_14, SC_15, SC_16, SC_17, SC_18, SC_19, SC_20, SC_21, SC_22, SC_23, SC_24, SC_25, SC_26, SC_27, SC_28, SC_29, SC_30, SC_31, SC_32, SC_33, SC_34, SC_35, SC_36, SC_37, SC_38, SC_39, SC_40, SC_41, SC_42, SC_43, SC_44, SC_45, SC_46, SC_47, SC_48, SC_49, SC_50, SC_51, SC_52, SC_53, SC_54, SC_55, SC_56, SC_57, SC_58, SC_59, SC_60, SC_61, SC_62, SC_63, SC_64, SC_65, SC_66, SC_67, SC_68, SC_69, SC_70, SC_71, SC_72, SC_73, SC_74, SC_75, SC_76, SC_77, SC_78, SC_79, SC_80, SC_81]
      refine ⟨fun q => by omega, fun _ => ⟨fun z => ?_, fun z => ?_⟩⟩
      · have hc0 : c = 0 ∧ tnH k w (fun r => bits.testBit r) (k 1).toNat (itH k w (fun r => bits.testBit r) i T0) = itH k w (fun r => bits.testBit r) i T0 := by
          rcases hc with z | z
          · omega
          · exact z
        have ei := itH_fix hc0.2 (6 - i)
        rw [show i + (6 - i) = 6 by omega] at ei
        exact hq h' hs (by rw [ei]; exact hx)
      · exact roads (k 1).toNat 0 0 h' (by omega) hs hx (Or.inr ⟨rfl, rfl⟩) (hci (by omega))
  have hg := hR.1
  refine AM_of0 rfl rfl (by decide) (Nat.le_of_ble_eq_true rfl) ?_
  refine ok_He_spread.go [1, 2] 5 0 ?_; simp only [c_He_spread, op_aload, op_ci, op_getr, op_goto, op_iand, op_icge, op_ifeq, op_ifne, op_iinc, op_iload, op_invV, op_ishl, op_istore, op_ret, mc_Co_endOf, ms_Co_endOf, mc_Co_places, ms_Co_places, mc_Co_roads, ms_Co_roads, mc_Co_startOf, ms_Co_startOf, mc_He_carry, ms_He_carry, wpB, wpJ, List.getD_cons_zero, List.getD_cons_succ, lg, lst, lu, spl, catS, catV, c1, List.mem_cons, List.not_mem_nil, or_false, false_or, or_true, true_or, ite_true, ite_false, if_true, if_false, reduceIte, Nat.zero_le, true_and, and_true, Nat.sub_zero, Nat.sub_self, List.nil_append, List.cons_append, List.append_nil, Option.toList_some, Option.toList_none, List.length_cons, List.length_nil, Nat.reduceAdd, Nat.reduceLeDiff, Nat.reduceEqDiff, reduceCtorEq, false_implies, implies_true, not_false_eq_true, not_true_eq_false, List.replicate_succ, List.replicate_zero, Int.reduceLT, Int.reduceLE, Int.reduceEq, Int.reduceNe, Int.reduceToNat, Int.reduceNeg, Int.reduceAdd, Int.reduceSub, Int.reduceMul, Option.some.injEq, Sum.inl.injEq, Sum.inr.injEq, ne_eq, not_true, not_false_iff, Int.toNat_natCast, forall_const, and_false, false_and, and_self, eq_self, lc_lt, lc_gt, lc_le, lc_eq, Nat.reduceSub, nc_2, nc_5, nc_6, nc_8, nc_9, nc_10, nc_22, nc_30, nc_41, nc_44, nc_59, nc_176, nc_200, nc_1000, nc_2886, nn0, gi_si, gr_si, gl_si, cn_si, gi_sr, gr_sr, gl_sr, cn_sr, gi_sl, gr_sl, gl_sl, cn_sl, SC_0, SC_1, SC_2, SC_3, SC_4, SC_5, SC_6, SC_7, SC_8, SC_9, SC_10, SC_11, SC_12, SC_13, SC_14, SC_15, SC_16, SC_17, SC_18, SC_19, SC_20, SC_21, SC_22, SC_23, SC_24, SC_25, SC_26, SC_27, SC_28, SC_29, SC_30, SC_31, SC_32, SC_33, SC_34, SC_35, SC_36, SC_37, SC_38, SC_39, SC_40, SC_41, SC_42, SC_43, SC_44, SC_45, SC_46, SC_47, SC_48, SC_49, SC_50, SC_51, SC_52, SC_53, SC_54, SC_55, SC_56, SC_57, SC_58, SC_59, SC_60, SC_61, SC_62, SC_63, SC_64, SC_65, SC_66, SC_67, SC_68, SC_69, SC_70, SC_71, SC_72, SC_73, SC_74, SC_75, SC_76, SC_77, SC_78, SC_79, SC_80, SC_81, entL, show m_He_spread.2.2.1 = 5 from rfl, g_61_0 hg]
  exact turns (k 0).toNat 0 1 none _ (by omega) Sm.rfl' ht (Or.inl ⟨rfl, cn0⟩)
