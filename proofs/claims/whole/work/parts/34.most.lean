/-! MOST -/
def b0N (w : Nat → Int) : Nat → Int := fun j => if (j : Int) = w 0 then w 1 else -1
def bstN (k w b0 : Nat → Int) : Nat → Nat → Int
  | 0 => b0
  | t + 1 => advN k w (bstN k w b0 t) (k 1).toNat
theorem bstN_ok {k w b0 : Nat → Int} (h0 : ∀ j, -1 ≤ b0 j ∧ b0 j ≤ 999) (t j : Nat) : -1 ≤ bstN k w b0 t j ∧ bstN k w b0 t j ≤ 999 := by
  cases t with
  | zero => exact h0 j
  | succ t => unfold bstN; exact advN_ok _ _ _ _ _
theorem b0N_ok {k w : Nat → Int} (hI : Inv k w) (j : Nat) : -1 ≤ b0N w j ∧ b0N w j ≤ 999 := by
  have := hI.2.2.2.2.2.2.1
  unfold b0N; split <;> omega
def rsc (t : Int) (b : Nat → Int) : Nat → Int × Int → Int × Int
  | 0, s => s
  | p + 1, s => if (rsc t b p s).1 < b p then (b p, t) else rsc t b p s
theorem rsc_ge (t : Int) (b : Nat → Int) (p : Nat) (s : Int × Int) : s.1 ≤ (rsc t b p s).1 := by
  induction p with
  | zero => exact Int.le_refl _
  | succ p ih =>
    unfold rsc
    split
    · show s.1 ≤ b p; omega
    · exact ih
theorem rsc_far {t : Int} {b : Nat → Int} {P : Nat} {s : Int × Int} (hs : -1 ≤ s.1) (n : Nat) (hb : ∀ j, P ≤ j → j < P + n → b j = -1) : rsc t b (P + n) s = rsc t b P s := by
  induction n with
  | zero => rfl
  | succ n ih =>
    have h1 := rsc_ge t b (P + n) s
    have h2 := hb (P + n) (by omega) (by omega)
    show rsc t b (P + n + 1) s = _
    conv => lhs; unfold rsc
    rw [if_neg (by omega)]
    exact ih (fun j h1 h2 => hb j h1 (by omega))
theorem rsc_cong {t : Int} {b b' : Nat → Int} (P : Nat) (s : Int × Int) (hb : ∀ j, j < P → b' j = b j) : rsc t b' P s = rsc t b P s := by
  induction P with
  | zero => rfl
  | succ P ih =>
    unfold rsc
    rw [ih (fun j hj => hb j (by omega)), hb P (by omega)]
def mst (k w : Nat → Int) : Nat → Int × Int
  | 0 => (w 1, 0)
  | t + 1 => rsc ((t + 1 : Nat) : Int) (bstN k w (b0N w) (t + 1)) 6 (mst k w t)
theorem rsc_ok {t : Int} {b : Nat → Int} (hb : ∀ j, -1 ≤ b j ∧ b j ≤ 999) {P : Nat} {s : Int × Int} (hs : 0 ≤ s.1 ∧ s.1 ≤ 999) : 0 ≤ (rsc t b P s).1 ∧ (rsc t b P s).1 ≤ 999 := by
  induction P with
  | zero => exact hs
  | succ P ih =>
    unfold rsc
    split
    · have := hb P; show 0 ≤ b P ∧ b P ≤ 999; omega
    · exact ih
theorem mst_ok {k w : Nat → Int} (hI : Inv k w) (t : Nat) : 0 ≤ (mst k w t).1 ∧ (mst k w t).1 ≤ 999 := by
  induction t with
  | zero => exact hI.2.2.2.2.2.2.1
  | succ t ih => unfold mst; exact rsc_ok (bstN_ok (b0N_ok hI) _) ih
set_option maxRecDepth 100000 in
theorem s_Cl_raise {h : AH} {t s : Int} {Q : Option AV → AH → Prop} (hq : ∀ h', Sm (fun x => x = 57) h h' → (gi h' 57 4, gi h' 57 5) = (if gi h 57 4 < s then (s, t) else (gi h 57 4, gi h 57 5)) → Q none h') : AM SC m_Cl_raise [.inr (.inr 57), .inl t, .inl s] h Q := by
  refine AM_of0 rfl rfl (by decide) (Nat.le_of_ble_eq_true rfl) ?_
  refine ok_Cl_raise.go [] 5 0 ?_; simp only [c_Cl_raise, op_aload, op_geti, op_goto, op_icle, op_iload, op_puti, op_ret, wpB, wpJ, List.getD_cons_zero, List.getD_cons_succ, lg, lst, lu, spl, catS, catV, c1, List.mem_cons, List.not_mem_nil, or_false, false_or, or_true, true_or, ite_true, ite_false, if_true, if_false, reduceIte, Nat.zero_le, true_and, and_true, Nat.sub_zero, Nat.sub_self, List.nil_append, List.cons_append, List.append_nil, Option.toList_some, Option.toList_none, List.length_cons, List.length_nil, Nat.reduceAdd, Nat.reduceLeDiff, Nat.reduceEqDiff, reduceCtorEq, false_implies, implies_true, not_false_eq_true, not_true_eq_false, List.replicate_succ, List.replicate_zero, Int.reduceLT, Int.reduceLE, Int.reduceEq, Int.reduceNe, Int.reduceToNat, Int.reduceNeg, Int.reduceAdd, Int.reduceSub, Int.reduceMul, Option.some.injEq, Sum.inl.injEq, Sum.inr.injEq, ne_eq, not_true, not_false_iff, Int.toNat_natCast, forall_const, and_false, false_and, and_self, eq_self, lc_lt, lc_gt, lc_le, lc_eq, Nat.reduceSub, nc_2, nc_5, nc_6, nc_8, nc_9, nc_10, nc_22, nc_30, nc_41, nc_44, nc_59, nc_176, nc_200, nc_1000, nc_2886, nn0, gi_si, gr_si, gl_si, cn_si, gi_sr, gr_sr, gl_sr, cn_sr, gi_sl, gr_sl, gl_sl, cn_sl, SC_0, SC_1, SC_2, SC_3, SC_4, SC_5, SC_6, SC_7, SC_8, SC_9, SC_10, SC_11, SC_12, SC_13, SC_14, SC_15, SC_16, SC_17, SC_18, SC_19, SC_20, SC_21, SC_22, SC_23, SC_24, SC_25, SC_26, SC_27, SC_28, SC_29, SC_30, SC_31, SC_32, SC_33, SC_34, SC_35, SC_36, SC_37, SC_38, SC_39, SC_40, SC_41, SC_42, SC_43, SC_44, SC_45, SC_46, SC_47, SC_48, SC_49, SC_50, SC_51, SC_52, SC_53, SC_54, SC_55, SC_56, SC_57, SC_58, SC_59, SC_60, SC_61, SC_62, SC_63, SC_64, SC_65, SC_66, SC_67, SC_68, SC_69, SC_70, SC_71, SC_72, SC_73, SC_74, SC_75, SC_76, SC_77, SC_78, SC_79, SC_80, SC_81, entL, show m_Cl_raise.2.2.1 = 3 from rfl]
  refine ⟨fun z => hq h Sm.rfl' (by rw [if_neg (by omega)]), fun z => hq _ (by repeat (first | exact Sm.rfl' | refine Sm.si ?_ rfl)) ?_⟩
  rw [if_pos (by omega)]
  simp only [gi_si, and_self, true_and, if_true, Nat.reduceEqDiff, and_false, if_false]
def c57 (a : Nat) : Prop := a = 57 ∨ a = 58
set_option maxRecDepth 100000 in
theorem s_Cl_findMost {h : AH} {k w : Nat → Int} {n : Nat} {Q : Option AV → AH → Prop} (hR : RC h k w) (hI : Inv k w) (hc : cl2 (gr h 57 2) (gr h 57 3)) (hn : n ≤ 5)
    (hq : ∀ h', SmX c57 h h' → cl2 (gr h' 57 2) (gr h' 57 3) → (gi h' 57 4, gi h' 57 5) = mst k w n → Q none h') : AM SC m_Cl_findMost [.inr (.inr 57), .inl n] h Q := by
  have h0 := hI.1
  have hw0 := hI.2.2.2.2.2.1
  have hk0 : k 0 = (((k 0).toNat : Nat) : Int) := by omega
  have outer : ∀ (m t : Nat) (h' : AH) (x : Option AV), n = t + m → SmX c57 h h' → cl2 (gr h' 57 2) (gr h' 57 3) → (gi h' 57 4, gi h' 57 5) = mst k w t → (∀ j, j < 6 → gi h' (gr h' 57 2) j = bstN k w (b0N w) t j) → AW SC m_Cl_findMost 0 0 (t_Cl_findMost 1) [some (.inr (.inr 57)), some (.inl n), some (.inl ((t + 1 : Nat) : Int)), x] [] h' Q := by
    intro m
    induction m with
    | zero =>
      intro t h' x hi hs hc' hm hb
      refine ok_Cl_findMost.go [1, 2] 5 1 ?_; simp only [c_Cl_findMost, op_aload, op_ci, op_geti, op_getr, op_goto, op_iald, op_icge, op_icgt, op_iinc, op_iload, op_invV, op_istore, op_puti, op_ret, mc_Cl_advance, ms_Cl_advance, mc_Cl_begin, ms_Cl_begin, mc_Cl_raise, ms_Cl_raise, mc_Co_places, ms_Co_places, wpB, wpJ, List.getD_cons_zero, List.getD_cons_succ, lg, lst, lu, spl, catS, catV, c1, List.mem_cons, List.not_mem_nil, or_false, false_or, or_true, true_or, ite_true, ite_false, if_true, if_false, reduceIte, Nat.zero_le, true_and, and_true, Nat.sub_zero, Nat.sub_self, List.nil_append, List.cons_append, List.append_nil, Option.toList_some, Option.toList_none, List.length_cons, List.length_nil, Nat.reduceAdd, Nat.reduceLeDiff, Nat.reduceEqDiff, reduceCtorEq, false_implies, implies_true, not_false_eq_true, not_true_eq_false, List.replicate_succ, List.replicate_zero, Int.reduceLT, Int.reduceLE, Int.reduceEq, Int.reduceNe, Int.reduceToNat, Int.reduceNeg, Int.reduceAdd, Int.reduceSub, Int.reduceMul, Option.some.injEq, Sum.inl.injEq, Sum.inr.injEq, ne_eq, not_true, not_false_iff, Int.toNat_natCast, forall_const, and_false, false_and, and_self, eq_self, lc_lt, lc_gt, lc_le, lc_eq, Nat.reduceSub, nc_2, nc_5, nc_6, nc_8, nc_9, nc_10, nc_22, nc_30, nc_41, nc_44, nc_59, nc_176, nc_200, nc_1000, nc_2886, nn0, gi_si, gr_si, gl_si, cn_si, gi_sr, gr_sr, gl_sr, cn_sr, gi_sl, gr_sl, gl_sl, cn_sl, SC_0, SC_1, SC_2, SC_3, SC_4, SC_5, SC_6, SC_7, SC_8, SC_9, SC_10, SC_11, SC_12, SC_13, SC_14, SC_15, SC_16, SC_17, SC_18, SC_19, SC_20, SC_21, SC_22, SC_23, SC_24, SC_25, SC_26, SC_27, SC_28, SC_29, SC_30, SC_31, SC_32, SC_33, SC_34, SC_35, SC_36, SC_37, SC_38, SC_39, SC_40, SC_41, SC_42, SC_43, SC_44, SC_45, SC_46, SC_47, SC_48, SC_49, SC_50, SC_51, SC_52, SC_53, SC_54, SC_55, SC_56, SC_57, SC_58, SC_59, SC_60, SC_61, SC_62, SC_63, SC_64, SC_65, SC_66, SC_67, SC_68, SC_69, SC_70, SC_71, SC_72, SC_73, SC_74, SC_75, SC_76, SC_77, SC_78, SC_79, SC_80, SC_81, entL, show m_Cl_findMost.2.2.1 = 4 from rfl]
      refine ⟨fun _ => hq h' hs hc' (by rw [show n = t by omega]; exact hm), fun q => by omega⟩
    | succ m ih =>
      intro t h' x hi hs hc' hm hb
      have hR' := hR.smx hs (fun a ha => by unfold c57 at ha; omega)
      have hg := hR'.1
      refine ok_Cl_findMost.go [1, 2] 5 1 ?_; simp only [c_Cl_findMost, op_aload, op_ci, op_geti, op_getr, op_goto, op_iald, op_icge, op_icgt, op_iinc, op_iload, op_invV, op_istore, op_puti, op_ret, mc_Cl_advance, ms_Cl_advance, mc_Cl_begin, ms_Cl_begin, mc_Cl_raise, ms_Cl_raise, mc_Co_places, ms_Co_places, wpB, wpJ, List.getD_cons_zero, List.getD_cons_succ, lg, lst, lu, spl, catS, catV, c1, List.mem_cons, List.not_mem_nil, or_false, false_or, or_true, true_or, ite_true, ite_false, if_true, if_false, reduceIte, Nat.zero_le, true_and, and_true, Nat.sub_zero, Nat.sub_self, List.nil_append, List.cons_append, List.append_nil, Option.toList_some, Option.toList_none, List.length_cons, List.length_nil, Nat.reduceAdd, Nat.reduceLeDiff, Nat.reduceEqDiff, reduceCtorEq, false_implies, implies_true, not_false_eq_true, not_true_eq_false, List.replicate_succ, List.replicate_zero, Int.reduceLT, Int.reduceLE, Int.reduceEq, Int.reduceNe, Int.reduceToNat, Int.reduceNeg, Int.reduceAdd, Int.reduceSub, Int.reduceMul, Option.some.injEq, Sum.inl.injEq, Sum.inr.injEq, ne_eq, not_true, not_false_iff, Int.toNat_natCast, forall_const, and_false, false_and, and_self, eq_self, lc_lt, lc_gt, lc_le, lc_eq, Nat.reduceSub, nc_2, nc_5, nc_6, nc_8, nc_9, nc_10, nc_22, nc_30, nc_41, nc_44, nc_59, nc_176, nc_200, nc_1000, nc_2886, nn0, gi_si, gr_si, gl_si, cn_si, gi_sr, gr_sr, gl_sr, cn_sr, gi_sl, gr_sl, gl_sl, cn_sl, SC_0, SC_1, SC_2, SC_3, SC_4, SC_5, SC_6, SC_7, SC_8, SC_9, SC_10, SC_11, SC_12, SC_13, SC_14, SC_15, SC_16, SC_17, SC_18, SC_19, SC_20, SC_21, SC_22, SC_23, SC_24, SC_25, SC_26, SC_27, SC_28, SC_29, SC_30, SC_31, SC_32, SC_33, SC_34, SC_35, SC_36, SC_37, SC_38, SC_39, SC_40, SC_41, SC_42, SC_43, SC_44, SC_45, SC_46, SC_47, SC_48, SC_49, SC_50, SC_51, SC_52, SC_53, SC_54, SC_55, SC_56, SC_57, SC_58, SC_59, SC_60, SC_61, SC_62, SC_63, SC_64, SC_65, SC_66, SC_67, SC_68, SC_69, SC_70, SC_71, SC_72, SC_73, SC_74, SC_75, SC_76, SC_77, SC_78, SC_79, SC_80, SC_81, entL, show m_Cl_findMost.2.2.1 = 4 from rfl, g_57_0 hg, g_5_0 hg, g_14_0 hg]
      refine ⟨fun q => by omega, fun _ => ?_⟩
      refine s_Cl_advance hR' hI rfl rfl hc' hb (fun j _ => bstN_ok (b0N_ok hI) t j) (fun h2 hs2 e2 e3 hx2 => ?_)
      simp only [c_Cl_findMost, op_aload, op_ci, op_geti, op_getr, op_goto, op_iald, op_icge, op_icgt, op_iinc, op_iload, op_invV, op_istore, op_puti, op_ret, mc_Cl_advance, ms_Cl_advance, mc_Cl_begin, ms_Cl_begin, mc_Cl_raise, ms_Cl_raise, mc_Co_places, ms_Co_places, wpB, wpJ, List.getD_cons_zero, List.getD_cons_succ, lg, lst, lu, spl, catS, catV, c1, List.mem_cons, List.not_mem_nil, or_false, false_or, or_true, true_or, ite_true, ite_false, if_true, if_false, reduceIte, Nat.zero_le, true_and, and_true, Nat.sub_zero, Nat.sub_self, List.nil_append, List.cons_append, List.append_nil, Option.toList_some, Option.toList_none, List.length_cons, List.length_nil, Nat.reduceAdd, Nat.reduceLeDiff, Nat.reduceEqDiff, reduceCtorEq, false_implies, implies_true, not_false_eq_true, not_true_eq_false, List.replicate_succ, List.replicate_zero, Int.reduceLT, Int.reduceLE, Int.reduceEq, Int.reduceNe, Int.reduceToNat, Int.reduceNeg, Int.reduceAdd, Int.reduceSub, Int.reduceMul, Option.some.injEq, Sum.inl.injEq, Sum.inr.injEq, ne_eq, not_true, not_false_iff, Int.toNat_natCast, forall_const, and_false, false_and, and_self, eq_self, lc_lt, lc_gt, lc_le, lc_eq, Nat.reduceSub, nc_2, nc_5, nc_6, nc_8, nc_9, nc_10, nc_22, nc_30, nc_41, nc_44, nc_59, nc_176, nc_200, nc_1000, nc_2886, nn0, gi_si, gr_si, gl_si, cn_si, gi_sr, gr_sr, gl_sr, cn_sr, gi_sl, gr_sl, gl_sl, cn_sl, SC_0, SC_1, SC_2, SC_3, SC_4, SC_5, SC_6, SC_7, SC_8, SC_9, SC_10, SC_11, SC_12, SC_13, SC_14, SC_15, SC_16, SC_17, SC_18, SC_19, SC_20, SC_21, SC_22, SC_23, SC_24, SC_25, SC_26, SC_27, SC_28, SC_29, SC_30, SC_31, SC_32, SC_33, SC_34, SC_35, SC_36, SC_37, SC_38, SC_39, SC_40, SC_41, SC_42, SC_43, SC_44, SC_45, SC_46, SC_47, SC_48, SC_49, SC_50, SC_51, SC_52, SC_53, SC_54, SC_55, SC_56, SC_57, SC_58, SC_59, SC_60, SC_61, SC_62, SC_63, SC_64, SC_65, SC_66, SC_67, SC_68, SC_69, SC_70, SC_71, SC_72, SC_73, SC_74, SC_75, SC_76, SC_77, SC_78, SC_79, SC_80, SC_81]
      have hs2' : SmX c57 h h2 := hs.trans (hs2.mono (fun x hx => hx.elim))
      have hm2 : (gi h2 57 4, gi h2 57 5) = mst k w t := by rw [← hm, (hs2.2.2 57 (by omega) (by omega) (fun z => z)).1 4, (hs2.2.2 57 (by omega) (by omega) (fun z => z)).1 5]
      have hc2 : cl2 (gr h2 57 2) (gr h2 57 3) := by rw [e2, e3]; unfold cl2 at hc' ⊢; omega
      have hb2 : ∀ j, j < 6 → gi h2 (gr h2 57 2) j = bstN k w (b0N w) (t + 1) j := fun j hj => by rw [e2]; exact hx2 j hj
      have inner : ∀ (m2 p : Nat) (h3 : AH), (k 0).toNat = p + m2 → Sm (fun x => x = 57) h2 h3 → (gi h3 57 4, gi h3 57 5) = rsc ((t + 1 : Nat) : Int) (bstN k w (b0N w) (t + 1)) p (mst k w t) → AW SC m_Cl_findMost 0 0 (t_Cl_findMost 2) [some (.inr (.inr 57)), some (.inl n), some (.inl ((t + 1 : Nat) : Int)), some (.inl p)] [] h3 Q := by
        intro m2
        induction m2 with
        | zero =>
          intro p h3 hp hs3 hm3
          have hs3' : SmX c57 h h3 := hs2'.trans (SmX.of hs3 (fun a ha => by unfold c57; omega))
          have hR3 := hR.smx hs3' (fun a ha => by unfold c57 at ha; omega)
          have hg3 := hR3.1
          have w1 : wr (((t + 1 : Nat) : Int) + 1) = ((t + 1 + 1 : Nat) : Int) := by rw [wr_id (by omega) (by omega)]; omega
          refine ok_Cl_findMost.go [1, 2] 5 2 ?_; simp only [c_Cl_findMost, op_aload, op_ci, op_geti, op_getr, op_goto, op_iald, op_icge, op_icgt, op_iinc, op_iload, op_invV, op_istore, op_puti, op_ret, mc_Cl_advance, ms_Cl_advance, mc_Cl_begin, ms_Cl_begin, mc_Cl_raise, ms_Cl_raise, mc_Co_places, ms_Co_places, wpB, wpJ, List.getD_cons_zero, List.getD_cons_succ, lg, lst, lu, spl, catS, catV, c1, List.mem_cons, List.not_mem_nil, or_false, false_or, or_true, true_or, ite_true, ite_false, if_true, if_false, reduceIte, Nat.zero_le, true_and, and_true, Nat.sub_zero, Nat.sub_self, List.nil_append, List.cons_append, List.append_nil, Option.toList_some, Option.toList_none, List.length_cons, List.length_nil, Nat.reduceAdd, Nat.reduceLeDiff, Nat.reduceEqDiff, reduceCtorEq, false_implies, implies_true, not_false_eq_true, not_true_eq_false, List.replicate_succ, List.replicate_zero, Int.reduceLT, Int.reduceLE, Int.reduceEq, Int.reduceNe, Int.reduceToNat, Int.reduceNeg, Int.reduceAdd, Int.reduceSub, Int.reduceMul, Option.some.injEq, Sum.inl.injEq, Sum.inr.injEq, ne_eq, not_true, not_false_iff, Int.toNat_natCast, forall_const, and_false, false_and, and_self, eq_self, lc_lt, lc_gt, lc_le, lc_eq, Nat.reduceSub, nc_2, nc_5, nc_6, nc_8, nc_9, nc_10, nc_22, nc_30, nc_41, nc_44, nc_59, nc_176, nc_200, nc_1000, nc_2886, nn0, gi_si, gr_si, gl_si, cn_si, gi_sr, gr_sr, gl_sr, cn_sr, gi_sl, gr_sl, gl_sl, cn_sl, SC_0, SC_1, SC_2, SC_3, SC_4, SC_5, SC_6, SC_7, SC_8, SC_9, SC_10, SC_11, SC_12, SC_13, SC_14, SC_15, SC_16, SC_17, SC_18, SC_19, SC_20, SC_21, SC_22, SC_23, SC_24, SC_25, SC_26, SC_27, SC_28, SC_29, SC_30, SC_31, SC_32, SC_33, SC_34, SC_35, SC_36, SC_37, SC_38, SC_39, SC_40, SC_41, SC_42, SC_43, SC_44, SC_45, SC_46, SC_47, SC_48, SC_49, SC_50, SC_51, SC_52, SC_53, SC_54, SC_55, SC_56, SC_57, SC_58, SC_59, SC_60, SC_61, SC_62, SC_63, SC_64, SC_65, SC_66, SC_67, SC_68, SC_69, SC_70, SC_71, SC_72, SC_73, SC_74, SC_75, SC_76, SC_77, SC_78, SC_79, SC_80, SC_81, entL, show m_Cl_findMost.2.2.1 = 4 from rfl, g_57_0 hg3, g_5_0 hg3, g_14_0 hg3]
          refine s_Co_places hR3 ?_
          simp only [c_Cl_findMost, op_aload, op_ci, op_geti, op_getr, op_goto, op_iald, op_icge, op_icgt, op_iinc, op_iload, op_invV, op_istore, op_puti, op_ret, mc_Cl_advance, ms_Cl_advance, mc_Cl_begin, ms_Cl_begin, mc_Cl_raise, ms_Cl_raise, mc_Co_places, ms_Co_places, wpB, wpJ, List.getD_cons_zero, List.getD_cons_succ, lg, lst, lu, spl, catS, catV, c1, List.mem_cons, List.not_mem_nil, or_false, false_or, or_true, true_or, ite_true, ite_false, if_true, if_false, reduceIte, Nat.zero_le, true_and, and_true, Nat.sub_zero, Nat.sub_self, List.nil_append, List.cons_append, List.append_nil, Option.toList_some, Option.toList_none, List.length_cons, List.length_nil, Nat.reduceAdd, Nat.reduceLeDiff, Nat.reduceEqDiff, reduceCtorEq, false_implies, implies_true, not_false_eq_true, not_true_eq_false, List.replicate_succ, List.replicate_zero, Int.reduceLT, Int.reduceLE, Int.reduceEq, Int.reduceNe, Int.reduceToNat, Int.reduceNeg, Int.reduceAdd, Int.reduceSub, Int.reduceMul, Option.some.injEq, Sum.inl.injEq, Sum.inr.injEq, ne_eq, not_true, not_false_iff, Int.toNat_natCast, forall_const, and_false, false_and, and_self, eq_self, lc_lt, lc_gt, lc_le, lc_eq, Nat.reduceSub, nc_2, nc_5, nc_6, nc_8, nc_9, nc_10, nc_22, nc_30, nc_41, nc_44, nc_59, nc_176, nc_200, nc_1000, nc_2886, nn0, gi_si, gr_si, gl_si, cn_si, gi_sr, gr_sr, gl_sr, cn_sr, gi_sl, gr_sl, gl_sl, cn_sl, SC_0, SC_1, SC_2, SC_3, SC_4, SC_5, SC_6, SC_7, SC_8, SC_9, SC_10, SC_11, SC_12, SC_13, SC_14, SC_15, SC_16, SC_17, SC_18, SC_19, SC_20, SC_21, SC_22, SC_23, SC_24, SC_25, SC_26, SC_27, SC_28, SC_29, SC_30, SC_31, SC_32, SC_33, SC_34, SC_35, SC_36, SC_37, SC_38, SC_39, SC_40, SC_41, SC_42, SC_43, SC_44, SC_45, SC_46, SC_47, SC_48, SC_49, SC_50, SC_51, SC_52, SC_53, SC_54, SC_55, SC_56, SC_57, SC_58, SC_59, SC_60, SC_61, SC_62, SC_63, SC_64, SC_65, SC_66, SC_67, SC_68, SC_69, SC_70, SC_71, SC_72, SC_73, SC_74, SC_75, SC_76, SC_77, SC_78, SC_79, SC_80, SC_81, w1]
          refine ⟨fun _ => ?_, fun q => by omega⟩
          refine ih (t + 1) h3 _ (by omega) hs3' (by rw [hs3.2.1]; exact hc2) ?_ (fun j hj => ?_)
          · rw [hm3]
            conv => rhs; unfold mst
            have hfar := rsc_far (t := ((t + 1 : Nat) : Int)) (b := bstN k w (b0N w) (t + 1)) (P := (k 0).toNat) (s := mst k w t) (by have := mst_ok hI t; omega) (6 - (k 0).toNat) (fun j h1 h2 => by unfold bstN; exact advN_far hI _ (by have := hI.2.1; omega) j (by omega))
            rw [show (k 0).toNat + (6 - (k 0).toNat) = 6 by omega] at hfar
            rw [hfar, show p = (k 0).toNat by omega]
          · rw [hs3.2.1, (hs3.2.2 _ (fun z => by rw [z] at hc2; unfold cl2 at hc2; omega)).1]; exact hb2 j hj
        | succ m2 ih2 =>
          intro p h3 hp hs3 hm3
          have hs3' : SmX c57 h h3 := hs2'.trans (SmX.of hs3 (fun a ha => by unfold c57; omega))
          have hR3 := hR.smx hs3' (fun a ha => by unfold c57 at ha; omega)
          have hg3 := hR3.1
          have e5 : gr h3 57 2 = gr h2 57 2 := by rw [hs3.2.1]
          have s1 := (cl2_sc hc2).1
          have p6 : (p : Int) < 6 := by omega
          have ev : gi h3 (gr h2 57 2) p = bstN k w (b0N w) (t + 1) p := by rw [(hs3.2.2 _ (fun z => by rw [z] at hc2; unfold cl2 at hc2; omega)).1]; exact hb2 p (by omega)
          have w1 : wr ((p : Int) + 1) = ((p + 1 : Nat) : Int) := by rw [wr_id (by omega) (by omega)]; omega
          refine ok_Cl_findMost.go [1, 2] 5 2 ?_; simp only [c_Cl_findMost, op_aload, op_ci, op_geti, op_getr, op_goto, op_iald, op_icge, op_icgt, op_iinc, op_iload, op_invV, op_istore, op_puti, op_ret, mc_Cl_advance, ms_Cl_advance, mc_Cl_begin, ms_Cl_begin, mc_Cl_raise, ms_Cl_raise, mc_Co_places, ms_Co_places, wpB, wpJ, List.getD_cons_zero, List.getD_cons_succ, lg, lst, lu, spl, catS, catV, c1, List.mem_cons, List.not_mem_nil, or_false, false_or, or_true, true_or, ite_true, ite_false, if_true, if_false, reduceIte, Nat.zero_le, true_and, and_true, Nat.sub_zero, Nat.sub_self, List.nil_append, List.cons_append, List.append_nil, Option.toList_some, Option.toList_none, List.length_cons, List.length_nil, Nat.reduceAdd, Nat.reduceLeDiff, Nat.reduceEqDiff, reduceCtorEq, false_implies, implies_true, not_false_eq_true, not_true_eq_false, List.replicate_succ, List.replicate_zero, Int.reduceLT, Int.reduceLE, Int.reduceEq, Int.reduceNe, Int.reduceToNat, Int.reduceNeg, Int.reduceAdd, Int.reduceSub, Int.reduceMul, Option.some.injEq, Sum.inl.injEq, Sum.inr.injEq, ne_eq, not_true, not_false_iff, Int.toNat_natCast, forall_const, and_false, false_and, and_self, eq_self, lc_lt, lc_gt, lc_le, lc_eq, Nat.reduceSub, nc_2, nc_5, nc_6, nc_8, nc_9, nc_10, nc_22, nc_30, nc_41, nc_44, nc_59, nc_176, nc_200, nc_1000, nc_2886, nn0, gi_si, gr_si, gl_si, cn_si, gi_sr, gr_sr, gl_sr, cn_sr, gi_sl, gr_sl, gl_sl, cn_sl, SC_0, SC_1, SC_2, SC_3, SC_4, SC_5, SC_6, SC_7, SC_8, SC_9, SC_10, SC_11, SC_12, SC_13, SC_14, SC_15, SC_16, SC_17, SC_18, SC_19, SC_20, SC_21, SC_22, SC_23, SC_24, SC_25, SC_26, SC_27, SC_28, SC_29, SC_30, SC_31, SC_32, SC_33, SC_34, SC_35, SC_36, SC_37, SC_38, SC_39, SC_40, SC_41, SC_42, SC_43, SC_44, SC_45, SC_46, SC_47, SC_48, SC_49, SC_50, SC_51, SC_52, SC_53, SC_54, SC_55, SC_56, SC_57, SC_58, SC_59, SC_60, SC_61, SC_62, SC_63, SC_64, SC_65, SC_66, SC_67, SC_68, SC_69, SC_70, SC_71, SC_72, SC_73, SC_74, SC_75, SC_76, SC_77, SC_78, SC_79, SC_80, SC_81, entL, show m_Cl_findMost.2.2.1 = 4 from rfl, g_57_0 hg3, g_5_0 hg3, g_14_0 hg3]
          refine s_Co_places hR3 ?_
          simp only [c_Cl_findMost, op_aload, op_ci, op_geti, op_getr, op_goto, op_iald, op_icge, op_icgt, op_iinc, op_iload, op_invV, op_istore, op_puti, op_ret, mc_Cl_advance, ms_Cl_advance, mc_Cl_begin, ms_Cl_begin, mc_Cl_raise, ms_Cl_raise, mc_Co_places, ms_Co_places, wpB, wpJ, List.getD_cons_zero, List.getD_cons_succ, lg, lst, lu, spl, catS, catV, c1, List.mem_cons, List.not_mem_nil, or_false, false_or, or_true, true_or, ite_true, ite_false, if_true, if_false, reduceIte, Nat.zero_le, true_and, and_true, Nat.sub_zero, Nat.sub_self, List.nil_append, List.cons_append, List.append_nil, Option.toList_some, Option.toList_none, List.length_cons, List.length_nil, Nat.reduceAdd, Nat.reduceLeDiff, Nat.reduceEqDiff, reduceCtorEq, false_implies, implies_true, not_false_eq_true, not_true_eq_false, List.replicate_succ, List.replicate_zero, Int.reduceLT, Int.reduceLE, Int.reduceEq, Int.reduceNe, Int.reduceToNat, Int.reduceNeg, Int.reduceAdd, Int.reduceSub, Int.reduceMul, Option.some.injEq, Sum.inl.injEq, Sum.inr.injEq, ne_eq, not_true, not_false_iff, Int.toNat_natCast, forall_const, and_false, false_and, and_self, eq_self, lc_lt, lc_gt, lc_le, lc_eq, Nat.reduceSub, nc_2, nc_5, nc_6, nc_8, nc_9, nc_10, nc_22, nc_30, nc_41, nc_44, nc_59, nc_176, nc_200, nc_1000, nc_2886, nn0, gi_si, gr_si, gl_si, cn_si, gi_sr, gr_sr, gl_sr, cn_sr, gi_sl, gr_sl, gl_sl, cn_sl, SC_0, SC_1, SC_2, SC_3, SC_4, SC_5, SC_6, SC_7, SC_8, SC_9, SC_10, SC_11, SC_12, SC_13, SC_14, SC_15, SC_16, SC_17, SC_18, SC_19, SC_20, SC_21, SC_22, SC_23, SC_24, SC_25, SC_26, SC_27, SC_28, SC_29, SC_30, SC_31, SC_32, SC_33, SC_34, SC_35, SC_36, SC_37, SC_38, SC_39, SC_40, SC_41, SC_42, SC_43, SC_44, SC_45, SC_46, SC_47, SC_48, SC_49, SC_50, SC_51, SC_52, SC_53, SC_54, SC_55, SC_56, SC_57, SC_58, SC_59, SC_60, SC_61, SC_62, SC_63, SC_64, SC_65, SC_66, SC_67, SC_68, SC_69, SC_70, SC_71, SC_72, SC_73, SC_74, SC_75, SC_76, SC_77, SC_78, SC_79, SC_80, SC_81, e5, s1, p6, ev]
          refine ⟨fun q => by omega, fun _ => ?_⟩
          refine s_Cl_raise (fun h4 hs4 hm4 => ?_)
          simp only [c_Cl_findMost, op_aload, op_ci, op_geti, op_getr, op_goto, op_iald, op_icge, op_icgt, op_iinc, op_iload, op_invV, op_istore, op_puti, op_ret, mc_Cl_advance, ms_Cl_advance, mc_Cl_begin, ms_Cl_begin, mc_Cl_raise, ms_Cl_raise, mc_Co_places, ms_Co_places, wpB, wpJ, List.getD_cons_zero, List.getD_cons_succ, lg, lst, lu, spl, catS, catV, c1, List.mem_cons, List.not_mem_nil, or_false, false_or, or_true, true_or, ite_true, ite_false, if_true, if_false, reduceIte, Nat.zero_le, true_and, and_true, Nat.sub_zero, Nat.sub_self, List.nil_append, List.cons_append, List.append_nil, Option.toList_some, Option.toList_none, List.length_cons, List.length_nil, Nat.reduceAdd, Nat.reduceLeDiff, Nat.reduceEqDiff, reduceCtorEq, false_implies, implies_true, not_false_eq_true, not_true_eq_false, List.replicate_succ, List.replicate_zero, Int.reduceLT, Int.reduceLE, Int.reduceEq, Int.reduceNe, Int.reduceToNat, Int.reduceNeg, Int.reduceAdd, Int.reduceSub, Int.reduceMul, Option.some.injEq, Sum.inl.injEq, Sum.inr.injEq, ne_eq, not_true, not_false_iff, Int.toNat_natCast, forall_const, and_false, false_and, and_self, eq_self, lc_lt, lc_gt, lc_le, lc_eq, Nat.reduceSub, nc_2, nc_5, nc_6, nc_8, nc_9, nc_10, nc_22, nc_30, nc_41, nc_44, nc_59, nc_176, nc_200, nc_1000, nc_2886, nn0, gi_si, gr_si, gl_si, cn_si, gi_sr, gr_sr, gl_sr, cn_sr, gi_sl, gr_sl, gl_sl, cn_sl, SC_0, SC_1, SC_2, SC_3, SC_4, SC_5, SC_6, SC_7, SC_8, SC_9, SC_10, SC_11, SC_12, SC_13, SC_14, SC_15, SC_16, SC_17, SC_18, SC_19, SC_20, SC_21, SC_22, SC_23, SC_24, SC_25, SC_26, SC_27, SC_28, SC_29, SC_30, SC_31, SC_32, SC_33, SC_34, SC_35, SC_36, SC_37, SC_38, SC_39, SC_40, SC_41, SC_42, SC_43, SC_44, SC_45, SC_46, SC_47, SC_48, SC_49, SC_50, SC_51, SC_52, SC_53, SC_54, SC_55, SC_56, SC_57, SC_58, SC_59, SC_60, SC_61, SC_62, SC_63, SC_64, SC_65, SC_66, SC_67, SC_68, SC_69, SC_70, SC_71, SC_72, SC_73, SC_74, SC_75, SC_76, SC_77, SC_78, SC_79, SC_80, SC_81, w1]
          refine ih2 (p + 1) h4 (by omega) (hs3.trans hs4) ?_
          rw [hm4]
          unfold rsc
          rw [← hm3]
      exact inner (k 0).toNat 0 h2 (by omega) Sm.rfl' hm2
  have hg := hR.1
  have hR22 := hR.2.2.1
  refine AM_of0 rfl rfl (by decide) (Nat.le_of_ble_eq_true rfl) ?_
  refine ok_Cl_findMost.go [1, 2] 5 0 ?_; simp only [c_Cl_findMost, op_aload, op_ci, op_geti, op_getr, op_goto, op_iald, op_icge, op_icgt, op_iinc, op_iload, op_invV, op_istore, op_puti, op_ret, mc_Cl_advance, ms_Cl_advance, mc_Cl_begin, ms_Cl_begin, mc_Cl_raise, ms_Cl_raise, mc_Co_places, ms_Co_places, wpB, wpJ, List.getD_cons_zero, List.getD_cons_succ, lg, lst, lu, spl, catS, catV, c1, List.mem_cons, List.not_mem_nil, or_false, false_or, or_true, true_or, ite_true, ite_false, if_true, if_false, reduceIte, Nat.zero_le, true_and, and_true, Nat.sub_zero, Nat.sub_self, List.nil_append, List.cons_append, List.append_nil, Option.toList_some, Option.toList_none, List.length_cons, List.length_nil, Nat.reduceAdd, Nat.reduceLeDiff, Nat.reduceEqDiff, reduceCtorEq, false_implies, implies_true, not_false_eq_true, not_true_eq_false, List.replicate_succ, List.replicate_zero, Int.reduceLT, Int.reduceLE, Int.reduceEq, Int.reduceNe, Int.reduceToNat, Int.reduceNeg, Int.reduceAdd, Int.reduceSub, Int.reduceMul, Option.some.injEq, Sum.inl.injEq, Sum.inr.injEq, ne_eq, not_true, not_false_iff, Int.toNat_natCast, forall_const, and_false, false_and, and_self, eq_self, lc_lt, lc_gt, lc_le, lc_eq, Nat.reduceSub, nc_2, nc_5, nc_6, nc_8, nc_9, nc_10, nc_22, nc_30, nc_41, nc_44, nc_59, nc_176, nc_200, nc_1000, nc_2886, nn0, gi_si, gr_si, gl_si, cn_si, gi_sr, gr_sr, gl_sr, cn_sr, gi_sl, gr_sl, gl_sl, cn_sl, SC_0, SC_1, SC_2, SC_3, SC_4, SC_5, SC_6, SC_7, SC_8, SC_9, SC_10, SC_11, SC_12, SC_13, SC_14, SC_15, SC_16, SC_17, SC_18, SC_19, SC_20, SC_21, SC_22, SC_23, SC_24, SC_25, SC_26, SC_27, SC_28, SC_29, SC_30, SC_31, SC_32, SC_33, SC_34, SC_35, SC_36, SC_37, SC_38, SC_39, SC_40, SC_41, SC_42, SC_43, SC_44, SC_45, SC_46, SC_47, SC_48, SC_49, SC_50, SC_51, SC_52, SC_53, SC_54, SC_55, SC_56, SC_57, SC_58, SC_59, SC_60, SC_61, SC_62, SC_63, SC_64, SC_65, SC_66, SC_67, SC_68, SC_69, SC_70, SC_71, SC_72, SC_73, SC_74, SC_75, SC_76, SC_77, SC_78, SC_79, SC_80, SC_81, entL, show m_Cl_findMost.2.2.1 = 4 from rfl, g_57_0 hg, g_5_0 hg, g_14_0 hg, hR22.1, hR22.2.1]
  refine s_Cl_begin (Bo := gr h 57 2) (No := gr h 57 3) rfl hc (by omega) (fun h1 hs1 hx1 => ?_)
  have hcl := cl2_sc hc
  have hR1 := hR.sm hs1 (fun a ha => by subst ha; omega)
  have hg1 := hR1.1
  simp only [c_Cl_findMost, op_aload, op_ci, op_geti, op_getr, op_goto, op_iald, op_icge, op_icgt, op_iinc, op_iload, op_invV, op_istore, op_puti, op_ret, mc_Cl_advance, ms_Cl_advance, mc_Cl_begin, ms_Cl_begin, mc_Cl_raise, ms_Cl_raise, mc_Co_places, ms_Co_places, wpB, wpJ, List.getD_cons_zero, List.getD_cons_succ, lg, lst, lu, spl, catS, catV, c1, List.mem_cons, List.not_mem_nil, or_false, false_or, or_true, true_or, ite_true, ite_false, if_true, if_false, reduceIte, Nat.zero_le, true_and, and_true, Nat.sub_zero, Nat.sub_self, List.nil_append, List.cons_append, List.append_nil, Option.toList_some, Option.toList_none, List.length_cons, List.length_nil, Nat.reduceAdd, Nat.reduceLeDiff, Nat.reduceEqDiff, reduceCtorEq, false_implies, implies_true, not_false_eq_true, not_true_eq_false, List.replicate_succ, List.replicate_zero, Int.reduceLT, Int.reduceLE, Int.reduceEq, Int.reduceNe, Int.reduceToNat, Int.reduceNeg, Int.reduceAdd, Int.reduceSub, Int.reduceMul, Option.some.injEq, Sum.inl.injEq, Sum.inr.injEq, ne_eq, not_true, not_false_iff, Int.toNat_natCast, forall_const, and_false, false_and, and_self, eq_self, lc_lt, lc_gt, lc_le, lc_eq, Nat.reduceSub, nc_2, nc_5, nc_6, nc_8, nc_9, nc_10, nc_22, nc_30, nc_41, nc_44, nc_59, nc_176, nc_200, nc_1000, nc_2886, nn0, gi_si, gr_si, gl_si, cn_si, gi_sr, gr_sr, gl_sr, cn_sr, gi_sl, gr_sl, gl_sl, cn_sl, SC_0, SC_1, SC_2, SC_3, SC_4, SC_5, SC_6, SC_7, SC_8, SC_9, SC_10, SC_11, SC_12, SC_13, SC_14, SC_15, SC_16, SC_17, SC_18, SC_19, SC_20, SC_21, SC_22, SC_23, SC_24, SC_25, SC_26, SC_27, SC_28, SC_29, SC_30, SC_31, SC_32, SC_33, SC_34, SC_35, SC_36, SC_37, SC_38, SC_39, SC_40, SC_41, SC_42, SC_43, SC_44, SC_45, SC_46, SC_47, SC_48, SC_49, SC_50, SC_51, SC_52, SC_53, SC_54, SC_55, SC_56, SC_57, SC_58, SC_59, SC_60, SC_61, SC_62, SC_63, SC_64, SC_65, SC_66, SC_67, SC_68, SC_69, SC_70, SC_71, SC_72, SC_73, SC_74, SC_75, SC_76, SC_77, SC_78, SC_79, SC_80, SC_81, g_57_0 hg1, g_5_0 hg1, g_14_0 hg1, hR1.2.2.1.2.1]
  have hsx : SmX c57 h (si (si h1 57 4 (w 1)) 57 5 0) := (SmX.of (P' := c57) hs1 (fun a ha => by subst ha; omega)).trans (SmX.of (P := fun a => a = 57) (by repeat (first | exact Sm.rfl' | refine Sm.si ?_ rfl)) (fun a ha => by unfold c57; omega))
  refine outer n 0 _ none (by omega) hsx ?_ ?_ (fun j hj => ?_)
  · simp only [gr_si, hs1.2.1]; exact hc
  · simp only [gi_si, and_self, true_and, if_true, Nat.reduceEqDiff, and_false, if_false]; rfl
  · simp only [gr_si, hs1.2.1]
    have hne : ¬ gr h 57 2 = 57 := by omega
    simp only [gi_si, hne, false_and, if_false]
    rw [hx1 j hj]
    rfl
set_option maxRecDepth 100000 in
theorem s_Mo_most_in {hM : AH} {k w : Nat → Int} (hRm : RM hM k w) (hI : Inv k w) {n : Nat} {b : Int} (hn : n ≤ 5) (Q : Option AV → AH → Prop) (hQ : ∀ h', KM hM h' → Q (some (.inl (if b = 0 then (mst k w n).1 else (mst k w n).2))) h') : AW SM m_Mo_most 0 0 (t_Mo_most 2) [some (.inr (.inr 1)), some (.inl n), some (.inl b), none, none, none, none, none, none, none, none] [] hM Q := by
  have h0 := hI.1
  have hk1 := hI.2.1
  have hw0 := hI.2.2.2.2.2.1
  have km : ∀ h', Sm (fun a => a = 10 ∨ a = 11) hM h' → KM hM h' := fun h' hs => ⟨hs.1, hs.2.1, fun a ha j => (hs.2.2 a (by omega)).1 j, fun j _ => (hs.2.2 1 (by omega)).1 j⟩
  have fin : ∀ (h' : AH) (x5 x6 x7 x8 x9 x10 : Option AV) (c d : Int), Sm (fun a => a = 10 ∨ a = 11) hM h' → (c, d) = mst k w n → AW SM m_Mo_most 0 0 (t_Mo_most 27) [some (.inr (.inr 1)), some (.inl n), some (.inl b), some (.inl c), some (.inl d), x5, x6, x7, x8, x9, x10] [] h' Q := by
    intro h' x5 x6 x7 x8 x9 x10 c d hs e
    refine ok_Mo_most.go [3, 7, 8, 10, 11, 21] 5 27 ?_; simp only [c_Mo_most, op_aload, op_ci, op_cl, op_getr, op_goto, op_i2l, op_iadd, op_iald, op_iast, op_icge, op_icgt, op_icle, op_icne, op_ifeq, op_ifge, op_ifne, op_iinc, op_iload, op_invS, op_invV, op_iret, op_istore, mc_Mo_byNow, ms_Mo_byNow, mc_Mo_in, ms_Mo_in, mc_Mo_isShut, ms_Mo_isShut, mc_Mo_isTwo, ms_Mo_isTwo, mc_Mo_otherEnd, ms_Mo_otherEnd, wpB, wpJ, List.getD_cons_zero, List.getD_cons_succ, lg, lst, lu, spl, catS, catV, c1, List.mem_cons, List.not_mem_nil, or_false, false_or, or_true, true_or, ite_true, ite_false, if_true, if_false, reduceIte, Nat.zero_le, true_and, and_true, Nat.sub_zero, Nat.sub_self, List.nil_append, List.cons_append, List.append_nil, Option.toList_some, Option.toList_none, List.length_cons, List.length_nil, Nat.reduceAdd, Nat.reduceLeDiff, Nat.reduceEqDiff, reduceCtorEq, false_implies, implies_true, not_false_eq_true, not_true_eq_false, List.replicate_succ, List.replicate_zero, Int.reduceLT, Int.reduceLE, Int.reduceEq, Int.reduceNe, Int.reduceToNat, Int.reduceNeg, Int.reduceAdd, Int.reduceSub, Int.reduceMul, Option.some.injEq, Sum.inl.injEq, Sum.inr.injEq, ne_eq, not_true, not_false_iff, Int.toNat_natCast, forall_const, and_false, false_and, and_self, eq_self, lc_lt, lc_gt, lc_le, lc_eq, Nat.reduceSub, nc_2, nc_5, nc_6, nc_8, nc_9, nc_10, nc_22, nc_30, nc_41, nc_44, nc_59, nc_176, nc_200, nc_1000, nc_2886, nn0, gi_si, gr_si, gl_si, cn_si, gi_sr, gr_sr, gl_sr, cn_sr, gi_sl, gr_sl, gl_sl, cn_sl, SM_0, SM_1, SM_2, SM_3, SM_4, SM_5, SM_6, SM_7, SM_8, SM_9, SM_10, SM_11, SM_12, SM_13, SM_14, SM_15, SM_16, SM_17, SM_18, SM_19, SM_20, entL, show m_Mo_most.2.2.1 = 11 from rfl]
    have hQ' := hQ h' (km h' hs)
    rw [← e] at hQ'
    refine ⟨fun z => ?_, fun z => ?_⟩
    · rw [if_neg z] at hQ'; exact hQ'
    · rw [if_pos (by omega)] at hQ'; exact hQ'
  have outer : ∀ (m t : Nat) (h' : AH) (x6 x7 x8 x9 x10 : Option AV), n = t + m → Sm (fun a => a = 10 ∨ a = 11) hM h' → (∀ j, j < 6 → gi h' 10 j = bstN k w (b0N w) t j) → AW SM m_Mo_most 0 0 (t_Mo_most 7) [some (.inr (.inr 1)), some (.inl n), some (.inl b), some (.inl (mst k w t).1), some (.inl (mst k w t).2), some (.inl ((t + 1 : Nat) : Int)), x6, x7, x8, x9, x10] [] h' Q := by
    intro m
    induction m with
    | zero =>
      intro t h' x6 x7 x8 x9 x10 hi hs hx
      refine ok_Mo_most.go [3, 7, 8, 10, 11, 21, 27] 5 7 ?_; simp only [c_Mo_most, op_aload, op_ci, op_cl, op_getr, op_goto, op_i2l, op_iadd, op_iald, op_iast, op_icge, op_icgt, op_icle, op_icne, op_ifeq, op_ifge, op_ifne, op_iinc, op_iload, op_invS, op_invV, op_iret, op_istore, mc_Mo_byNow, ms_Mo_byNow, mc_Mo_in, ms_Mo_in, mc_Mo_isShut, ms_Mo_isShut, mc_Mo_isTwo, ms_Mo_isTwo, mc_Mo_otherEnd, ms_Mo_otherEnd, wpB, wpJ, List.getD_cons_zero, List.getD_cons_succ, lg, lst, lu, spl, catS, catV, c1, List.mem_cons, List.not_mem_nil, or_false, false_or, or_true, true_or, ite_true, ite_false, if_true, if_false, reduceIte, Nat.zero_le, true_and, and_true, Nat.sub_zero, Nat.sub_self, List.nil_append, List.cons_append, List.append_nil, Option.toList_some, Option.toList_none, List.length_cons, List.length_nil, Nat.reduceAdd, Nat.reduceLeDiff, Nat.reduceEqDiff, reduceCtorEq, false_implies, implies_true, not_false_eq_true, not_true_eq_false, List.replicate_succ, List.replicate_zero, Int.reduceLT, Int.reduceLE, Int.reduceEq, Int.reduceNe, Int.reduceToNat, Int.reduceNeg, Int.reduceAdd, Int.reduceSub, Int.reduceMul, Option.some.injEq, Sum.inl.injEq, Sum.inr.injEq, ne_eq, not_true, not_false_iff, Int.toNat_natCast, forall_const, and_false, false_and, and_self, eq_self, lc_lt, lc_gt, lc_le, lc_eq, Nat.reduceSub, nc_2, nc_5, nc_6, nc_8, nc_9, nc_10, nc_22, nc_30, nc_41, nc_44, nc_59, nc_176, nc_200, nc_1000, nc_2886, nn0, gi_si, gr_si, gl_si, cn_si, gi_sr, gr_sr, gl_sr, cn_sr, gi_sl, gr_sl, gl_sl, cn_sl, SM_0, SM_1, SM_2, SM_3, SM_4, SM_5, SM_6, SM_7, SM_8, SM_9, SM_10, SM_11, SM_12, SM_13, SM_14, SM_15, SM_16, SM_17, SM_18, SM_19, SM_20, entL, show m_Mo_most.2.2.1 = 11 from rfl]
      refine ⟨fun _ => fin h' _ _ _ _ _ _ _ _ hs (by rw [show n = t by omega]), fun q => by omega⟩
    | succ m ih =>
      intro t h' x6 x7 x8 x9 x10 hi hs hx
      have hb9 : ∀ j, -1 ≤ bstN k w (b0N w) t j ∧ bstN k w (b0N w) t j ≤ 999 := fun j => bstN_ok (b0N_ok hI) t j
      have hg := hRm.1.sm hs
      have hR' : RM h' k w := hRm.sm hs (fun a ha => by omega)
      -- block 21: the table is taken over
      have scan : ∀ (m2 p : Nat) (h3 : AH) (c d : Int) (x7 x8 x9 x10 : Option AV), 6 = p + m2 → Sm (fun a => a = 10 ∨ a = 11) hM h3 → (∀ j, j < 6 → gi h3 11 j = bstN k w (b0N w) (t + 1) j) → (∀ j, j < p → gi h3 10 j = bstN k w (b0N w) (t + 1) j) → (c, d) = rsc ((t + 1 : Nat) : Int) (bstN k w (b0N w) (t + 1)) p (mst k w t) → AW SM m_Mo_most 0 0 (t_Mo_most 21) [some (.inr (.inr 1)), some (.inl n), some (.inl b), some (.inl c), some (.inl d), some (.inl ((t + 1 : Nat) : Int)), some (.inl p), x7, x8, x9, x10] [] h3 Q := by
        intro m2
        induction m2 with
        | zero =>
          intro p h3 c d x7 x8 x9 x10 hp hs3 hx3 hy3 e
          have w1 : wr (((t + 1 : Nat) : Int) + 1) = ((t + 1 + 1 : Nat) : Int) := by rw [wr_id (by omega) (by omega)]; omega
          refine ok_Mo_most.go [3, 7, 8, 10, 11, 21, 27] 5 21 ?_; simp only [c_Mo_most, op_aload, op_ci, op_cl, op_getr, op_goto, op_i2l, op_iadd, op_iald, op_iast, op_icge, op_icgt, op_icle, op_icne, op_ifeq, op_ifge, op_ifne, op_iinc, op_iload, op_invS, op_invV, op_iret, op_istore, mc_Mo_byNow, ms_Mo_byNow, mc_Mo_in, ms_Mo_in, mc_Mo_isShut, ms_Mo_isShut, mc_Mo_isTwo, ms_Mo_isTwo, mc_Mo_otherEnd, ms_Mo_otherEnd, wpB, wpJ, List.getD_cons_zero, List.getD_cons_succ, lg, lst, lu, spl, catS, catV, c1, List.mem_cons, List.not_mem_nil, or_false, false_or, or_true, true_or, ite_true, ite_false, if_true, if_false, reduceIte, Nat.zero_le, true_and, and_true, Nat.sub_zero, Nat.sub_self, List.nil_append, List.cons_append, List.append_nil, Option.toList_some, Option.toList_none, List.length_cons, List.length_nil, Nat.reduceAdd, Nat.reduceLeDiff, Nat.reduceEqDiff, reduceCtorEq, false_implies, implies_true, not_false_eq_true, not_true_eq_false, List.replicate_succ, List.replicate_zero, Int.reduceLT, Int.reduceLE, Int.reduceEq, Int.reduceNe, Int.reduceToNat, Int.reduceNeg, Int.reduceAdd, Int.reduceSub, Int.reduceMul, Option.some.injEq, Sum.inl.injEq, Sum.inr.injEq, ne_eq, not_true, not_false_iff, Int.toNat_natCast, forall_const, and_false, false_and, and_self, eq_self, lc_lt, lc_gt, lc_le, lc_eq, Nat.reduceSub, nc_2, nc_5, nc_6, nc_8, nc_9, nc_10, nc_22, nc_30, nc_41, nc_44, nc_59, nc_176, nc_200, nc_1000, nc_2886, nn0, gi_si, gr_si, gl_si, cn_si, gi_sr, gr_sr, gl_sr, cn_sr, gi_sl, gr_sl, gl_sl, cn_sl, SM_0, SM_1, SM_2, SM_3, SM_4, SM_5, SM_6, SM_7, SM_8, SM_9, SM_10, SM_11, SM_12, SM_13, SM_14, SM_15, SM_16, SM_17, SM_18, SM_19, SM_20, entL, show m_Mo_most.2.2.1 = 11 from rfl, w1]
          refine ⟨fun _ => ?_, fun q => by omega⟩
          have e2 : (c, d) = mst k w (t + 1) := by rw [e, show p = 6 by omega]; rfl
          have := ih (t + 1) h3 (some (.inl p)) x7 x8 x9 x10 (by omega) hs3 (fun j hj => hy3 j (by omega))
          rw [← e2] at this
          exact this
        | succ m2 ih2 =>
          intro p h3 c d x7 x8 x9 x10 hp hs3 hx3 hy3 e
          have hg3 := hRm.1.sm hs3
          have w1 : wr ((p : Int) + 1) = ((p + 1 : Nat) : Int) := by rw [wr_id (by omega) (by omega)]; omega
          have p6 : (p : Int) < 6 := by omega
          have ev := hx3 p (by omega)
          refine ok_Mo_most.go [3, 7, 8, 10, 11, 21, 27] 5 21 ?_; simp only [c_Mo_most, op_aload, op_ci, op_cl, op_getr, op_goto, op_i2l, op_iadd, op_iald, op_iast, op_icge, op_icgt, op_icle, op_icne, op_ifeq, op_ifge, op_ifne, op_iinc, op_iload, op_invS, op_invV, op_iret, op_istore, mc_Mo_byNow, ms_Mo_byNow, mc_Mo_in, ms_Mo_in, mc_Mo_isShut, ms_Mo_isShut, mc_Mo_isTwo, ms_Mo_isTwo, mc_Mo_otherEnd, ms_Mo_otherEnd, wpB, wpJ, List.getD_cons_zero, List.getD_cons_succ, lg, lst, lu, spl, catS, catV, c1, List.mem_cons, List.not_mem_nil, or_false, false_or, or_true, true_or, ite_true, ite_false, if_true, if_false, reduceIte, Nat.zero_le, true_and, and_true, Nat.sub_zero, Nat.sub_self, List.nil_append, List.cons_append, List.append_nil, Option.toList_some, Option.toList_none, List.length_cons, List.length_nil, Nat.reduceAdd, Nat.reduceLeDiff, Nat.reduceEqDiff, reduceCtorEq, false_implies, implies_true, not_false_eq_true, not_true_eq_false, List.replicate_succ, List.replicate_zero, Int.reduceLT, Int.reduceLE, Int.reduceEq, Int.reduceNe, Int.reduceToNat, Int.reduceNeg, Int.reduceAdd, Int.reduceSub, Int.reduceMul, Option.some.injEq, Sum.inl.injEq, Sum.inr.injEq, ne_eq, not_true, not_false_iff, Int.toNat_natCast, forall_const, and_false, false_and, and_self, eq_self, lc_lt, lc_gt, lc_le, lc_eq, Nat.reduceSub, nc_2, nc_5, nc_6, nc_8, nc_9, nc_10, nc_22, nc_30, nc_41, nc_44, nc_59, nc_176, nc_200, nc_1000, nc_2886, nn0, gi_si, gr_si, gl_si, cn_si, gi_sr, gr_sr, gl_sr, cn_sr, gi_sl, gr_sl, gl_sl, cn_sl, SM_0, SM_1, SM_2, SM_3, SM_4, SM_5, SM_6, SM_7, SM_8, SM_9, SM_10, SM_11, SM_12, SM_13, SM_14, SM_15, SM_16, SM_17, SM_18, SM_19, SM_20, entL, show m_Mo_most.2.2.1 = 11 from rfl, gm_0 hg3, gm_2 hg3, gm_16 hg3, gm_17 hg3, w1, p6, ev]
          refine ⟨fun q => by omega, fun _ => ?_⟩
          have hs4 : Sm (fun a => a = 10 ∨ a = 11) hM (si h3 10 p (bstN k w (b0N w) (t + 1) p)) := hs3.si (Or.inl rfl)
          have hx4 : ∀ j, j < 6 → gi (si h3 10 p (bstN k w (b0N w) (t + 1) p)) 11 j = bstN k w (b0N w) (t + 1) j := fun j hj => by rw [gi_si, if_neg (by omega)]; exact hx3 j hj
          have hy4 : ∀ j, j < p + 1 → gi (si h3 10 p (bstN k w (b0N w) (t + 1) p)) 10 j = bstN k w (b0N w) (t + 1) j := fun j hj => by
            rw [gi_si]
            by_cases g : j = p
            · rw [if_pos ⟨rfl, g⟩, g]
            · rw [if_neg (fun z => g z.2)]; exact hy3 j (by omega)
          have e3 : ∀ c' d' : Int, (c', d') = (if c < bstN k w (b0N w) (t + 1) p then (bstN k w (b0N w) (t + 1) p, ((t + 1 : Nat) : Int)) else (c, d)) → (c', d') = rsc ((t + 1 : Nat) : Int) (bstN k w (b0N w) (t + 1)) (p + 1) (mst k w t) := fun c' d' h => by
            rw [h]
            conv => rhs; unfold rsc
            rw [← e]
          refine ⟨fun z => ⟨fun z2 => ?_, fun z2 => ?_⟩, fun z => ⟨fun z2 => ?_, fun z2 => ?_⟩⟩
          · exact ih2 (p + 1) _ _ _ _ _ _ _ (by omega) hs4 hx4 hy4 (e3 _ _ (by rw [if_neg (by omega)]))
          · omega
          · omega
          · exact ih2 (p + 1) _ _ _ _ _ _ _ (by omega) hs4 hx4 hy4 (e3 _ _ (by rw [if_pos (by omega)]))
      -- block 11: one way over the ROAD
      have way : ∀ (r : Nat) (h3 : AH) (nx : Nat → Int) (P : Prop) (tn : Int) (x8 x9 x10 : Option AV), (r : Int) < k 1 → ¬ sh w r → (tn = 0 ∨ tn = 1) → Sm (fun a => a = 11) h' h3 → (∀ j, j < 6 → gi h3 11 j = nx j) → (∀ j, -1 ≤ nx j ∧ nx j ≤ 999) →
          (∀ h4 x8 x9 x10, Sm (fun a => a = 11) h' h4 → (∀ j, j < 6 → gi h4 11 j = (if tn = 0 then car k w (bstN k w (b0N w) t) nx r (k (14 + r)) (k (23 + r)) else car k w (bstN k w (b0N w) t) nx r (k (23 + r)) (k (14 + r))) j) → AW SM m_Mo_most 0 0 (t_Mo_most 11) [some (.inr (.inr 1)), some (.inl n), some (.inl b), some (.inl (mst k w t).1), some (.inl (mst k w t).2), some (.inl ((t + 1 : Nat) : Int)), some (.inl r), some (.inl (tn + 1)), x8, x9, x10] [] h4 Q) →
          AW SM m_Mo_most 0 0 (t_Mo_most 11) [some (.inr (.inr 1)), some (.inl n), some (.inl b), some (.inl (mst k w t).1), some (.inl (mst k w t).2), some (.inl ((t + 1 : Nat) : Int)), some (.inl r), some (.inl tn), x8, x9, x10] [] h3 Q := by
        sorry
      sorry
  sorry
