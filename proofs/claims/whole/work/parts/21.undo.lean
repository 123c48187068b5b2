/-! THE PILE OF WHAT CAN BE UNDONE; the reference's rows of standings -/
def SmU (h h' : AH) : Prop := cn h' = cn h ∧ (∀ a j, a ≠ 23 → gr h' a j = gr h a j) ∧ ∀ a, ¬ pilO 22 24 8 a → (∀ j, gi h' a j = gi h a j) ∧ ∀ j, gl h' a j = gl h a j
theorem SmU.of {h h' : AH} (hs : Sm (pilO 22 24 8) h h') : SmU h h' := ⟨hs.1, fun a j _ => by rw [hs.2.1], hs.2.2⟩
theorem SmU.trans {a b c : AH} (h1 : SmU a b) (h2 : SmU b c) : SmU a c := ⟨h2.1.trans h1.1, fun x j hx => (h2.2.1 x j hx).trans (h1.2.1 x j hx), fun x hx => ⟨fun j => ((h2.2.2 x hx).1 j).trans ((h1.2.2 x hx).1 j), fun j => ((h2.2.2 x hx).2 j).trans ((h1.2.2 x hx).2 j)⟩⟩
theorem GC.smu {h h' : AH} (hs : SmU h h') (hg : GC h) : GC h' := by
  refine ⟨hs.1.trans hg.1, fun q hq => ?_⟩
  have h0 : ∀ q ∈ GCl, q.1 ≠ 23 := by decide
  rw [hs.2.1 q.1 _ (h0 q hq)]
  exact hg.2 q hq
def shf (pa : Nat → Int) : Nat → Int := fun j => if j < 154 then pa (j + 22) else pa j
/-- the rows of the first i places moved one down -/
def DR (h h' : AH) (i : Nat) : Prop := cn h' = cn h ∧ (∀ a j, gi h' a j = gi h a j) ∧ (∀ a j, gl h' a j = gl h a j) ∧ (∀ a j, a ≠ 23 → gr h' a j = gr h a j) ∧ ∀ j, gr h' 23 j = if j + 1 < i then gr h 23 (j + 1) else if j + 1 = i then gr h 23 0 else gr h 23 j
set_option maxRecDepth 100000 in
theorem s_Pi_drop {h : AH} {Q : Option AV → AH → Prop} (hg : GC h) (hr : ∀ i, i < 8 → ∃ m, m < 8 ∧ gr h 23 i = 24 + 3 * m)
    (hq : ∀ h', SmU h h' → (∀ j, j < 7 → gr h' 23 j = gr h 23 (j + 1)) → gr h' 23 7 = gr h 23 0 → gi h' 22 1 = 7 → (∀ a j, a ≠ 22 → gi h' a j = gi h a j) → Q none h') : AM SC m_Pi_dropOldest [.inr (.inr 22)] h Q := by
  have hst : ∀ i, i < 8 → SC (gr h 23 i) = some (.inl 7) := fun i hi => by
    obtain ⟨m, hm, em⟩ := hr i hi
    rw [em]
    exact (isSt_f hg (Or.inr (Or.inl ⟨m, hm, rfl⟩))).1.1
  have loop : ∀ (m i : Nat) (h' : AH) (x : Option AV), 8 = i + m → 1 ≤ i → DR h h' i → AW SC m_Pi_dropOldest 0 0 (t_Pi_dropOldest 1) [some (.inr (.inr 22)), some (.inl i), x] [] h' Q := by
    intro m
    induction m with
    | zero =>
      intro i h' x hi h1 hd
      have e0 : gr h' 22 0 = 23 := by rw [hd.2.2.2.1 22 0 (by omega)]; exact g_22_0 hg
      have hi8 : (i : Int) = 8 := by omega
      have l8 : (8 : Nat) < 2147483648 := by omega
      have w7 : wr 7 = 7 := wr_id (by omega) (by omega)
      refine ok_Pi_dropOldest.go [1] 5 1 ?_; simp only [c_Pi_dropOldest, op_aald, op_aast, op_alen, op_aload, op_astore, op_ci, op_getr, op_goto, op_icge, op_iinc, op_iload, op_istore, op_isub, op_puti, op_ret, ATY, wpB, wpJ, List.getD_cons_zero, List.getD_cons_succ, lg, lst, lu, spl, catS, catV, c1, List.mem_cons, List.not_mem_nil, or_false, false_or, or_true, true_or, ite_true, ite_false, if_true, if_false, reduceIte, Nat.zero_le, true_and, and_true, Nat.sub_zero, Nat.sub_self, List.nil_append, List.cons_append, List.append_nil, Option.toList_some, Option.toList_none, List.length_cons, List.length_nil, Nat.reduceAdd, Nat.reduceLeDiff, Nat.reduceEqDiff, reduceCtorEq, false_implies, implies_true, not_false_eq_true, not_true_eq_false, List.replicate_succ, List.replicate_zero, Int.reduceLT, Int.reduceLE, Int.reduceEq, Int.reduceNe, Int.reduceToNat, Int.reduceNeg, Int.reduceAdd, Int.reduceSub, Int.reduceMul, Option.some.injEq, Sum.inl.injEq, Sum.inr.injEq, ne_eq, not_true, not_false_iff, Int.toNat_natCast, forall_const, and_false, false_and, and_self, eq_self, lc_lt, lc_gt, lc_le, lc_eq, Nat.reduceSub, nc_2, nc_5, nc_6, nc_8, nc_9, nc_10, nc_22, nc_30, nc_41, nc_44, nc_59, nc_176, nc_200, nc_1000, nc_2886, nn0, gi_si, gr_si, gl_si, cn_si, gi_sr, gr_sr, gl_sr, cn_sr, gi_sl, gr_sl, gl_sl, cn_sl, SC_0, SC_1, SC_2, SC_3, SC_4, SC_5, SC_6, SC_7, SC_8, SC_9, SC_10, SC_11, SC_12, SC_13, SC_14, SC_15, SC_16, SC_17, SC_18, SC_19, SC_20, SC_21, SC_22, SC_23, SC_24, SC_25, SC_26, SC_27, SC_28, SC_29, SC_30, SC_31, SC_32, SC_33, SC_34, SC_35, SC_36, SC_37, SC_38, SC_39, SC_40, SC_41, SC_42, SC_43, SC_44, SC_45, SC_46, SC_47, SC_48, SC_49, SC_50, SC_51, SC_52, SC_53, SC_54, SC_55, SC_56, SC_57, SC_58, SC_59, SC_60, SC_61, SC_62, SC_63, SC_64, SC_65, SC_66, SC_67, SC_68, SC_69, SC_70, SC_71, SC_72, SC_73, SC_74, SC_75, SC_76, SC_77, SC_78, SC_79, SC_80, SC_81, entL, show m_Pi_dropOldest.2.2.1 = 3 from rfl, e0, hi8, ATY, l8, w7]
      refine hq _ ⟨hd.1, fun a j ha => ?_, fun a ha => ⟨fun j => ?_, fun j => hd.2.2.1 a j⟩⟩ (fun j hj => ?_) ?_ ?_ (fun a j ha => ?_)
      · rw [gr_si]; exact hd.2.2.2.1 a j ha
      · rw [gi_si, if_neg (fun z => ha (Or.inl z.1))]; exact hd.2.1 a j
      · rw [gr_si, hd.2.2.2.2 j, if_pos (by omega)]
      · rw [gr_si, hd.2.2.2.2 7, if_neg (by omega), if_pos (by omega)]
      · rw [gi_si, if_pos ⟨rfl, rfl⟩]
      · rw [gi_si, if_neg (by omega)]; exact hd.2.1 a j
    | succ m ih =>
      intro i h' x hi h1 hd
      have e0 : gr h' 22 0 = 23 := by rw [hd.2.2.2.1 22 0 (by omega)]; exact g_22_0 hg
      have e2 : gr h' 23 i = gr h 23 i := by rw [hd.2.2.2.2 i, if_neg (by omega), if_neg (by omega)]
      have e1 : gr h' 23 (i - 1) = gr h 23 0 := by rw [hd.2.2.2.2 (i - 1), if_neg (by omega), if_pos (by omega)]
      have hi8 : (i : Int) < 8 := by omega
      have hst' := hst i (by omega)
      have hst0 := hst 0 (by omega)
      have l8 : (8 : Nat) < 2147483648 := by omega
      have w1 : wr ((i : Int) - 1) = ((i - 1 : Nat) : Int) := by rw [wr_id (by omega) (by omega)]; omega
      have w2 : wr ((i : Int) + 1) = ((i + 1 : Nat) : Int) := by rw [wr_id (by omega) (by omega)]; omega
      refine ok_Pi_dropOldest.go [1] 5 1 ?_; simp only [c_Pi_dropOldest, op_aald, op_aast, op_alen, op_aload, op_astore, op_ci, op_getr, op_goto, op_icge, op_iinc, op_iload, op_istore, op_isub, op_puti, op_ret, ATY, wpB, wpJ, List.getD_cons_zero, List.getD_cons_succ, lg, lst, lu, spl, catS, catV, c1, List.mem_cons, List.not_mem_nil, or_false, false_or, or_true, true_or, ite_true, ite_false, if_true, if_false, reduceIte, Nat.zero_le, true_and, and_true, Nat.sub_zero, Nat.sub_self, List.nil_append, List.cons_append, List.append_nil, Option.toList_some, Option.toList_none, List.length_cons, List.length_nil, Nat.reduceAdd, Nat.reduceLeDiff, Nat.reduceEqDiff, reduceCtorEq, false_implies, implies_true, not_false_eq_true, not_true_eq_false, List.replicate_succ, List.replicate_zero, Int.reduceLT, Int.reduceLE, Int.reduceEq, Int.reduceNe, Int.reduceToNat, Int.reduceNeg, Int.reduceAdd, Int.reduceSub, Int.reduceMul, Option.some.injEq, Sum.inl.injEq, Sum.inr.injEq, ne_eq, not_true, not_false_iff, Int.toNat_natCast, forall_const, and_false, false_and, and_self, eq_self, lc_lt, lc_gt, lc_le, lc_eq, Nat.reduceSub, nc_2, nc_5, nc_6, nc_8, nc_9, nc_10, nc_22, nc_30, nc_41, nc_44, nc_59, nc_176, nc_200, nc_1000, nc_2886, nn0, gi_si, gr_si, gl_si, cn_si, gi_sr, gr_sr, gl_sr, cn_sr, gi_sl, gr_sl, gl_sl, cn_sl, SC_0, SC_1, SC_2, SC_3, SC_4, SC_5, SC_6, SC_7, SC_8, SC_9, SC_10, SC_11, SC_12, SC_13, SC_14, SC_15, SC_16, SC_17, SC_18, SC_19, SC_20, SC_21, SC_22, SC_23, SC_24, SC_25, SC_26, SC_27, SC_28, SC_29, SC_30, SC_31, SC_32, SC_33, SC_34, SC_35, SC_36, SC_37, SC_38, SC_39, SC_40, SC_41, SC_42, SC_43, SC_44, SC_45, SC_46, SC_47, SC_48, SC_49, SC_50, SC_51, SC_52, SC_53, SC_54, SC_55, SC_56, SC_57, SC_58, SC_59, SC_60, SC_61, SC_62, SC_63, SC_64, SC_65, SC_66, SC_67, SC_68, SC_69, SC_70, SC_71, SC_72, SC_73, SC_74, SC_75, SC_76, SC_77, SC_78, SC_79, SC_80, SC_81, entL, show m_Pi_dropOldest.2.2.1 = 3 from rfl, e0, ATY, e1, e2, hst', hst0, l8, w1, w2]
      refine ⟨fun q => by omega, fun _ => ?_⟩
      repeat' (first | omega | (apply And.intro))
      refine ih (i + 1) _ _ (by omega) (by omega) ⟨hd.1, fun a j => hd.2.1 a j, fun a j => hd.2.2.1 a j, fun a j ha => ?_, fun j => ?_⟩
      · rw [gr_sr, if_neg (by omega), gr_sr, if_neg (by omega)]; exact hd.2.2.2.1 a j ha
      · rw [gr_sr, gr_sr, hd.2.2.2.2 j]
        by_cases hj : j = i
        · rw [if_pos ⟨rfl, hj⟩, if_neg (by omega), if_pos (by omega)]
        · rw [if_neg (fun z => hj z.2)]
          by_cases hj1 : j = i - 1
          · rw [if_pos ⟨rfl, hj1⟩, if_pos (by omega), show j + 1 = i by omega]
          · rw [if_neg (fun z => hj1 z.2)]
            by_cases hj2 : j + 1 < i
            · rw [if_pos hj2, if_pos (by omega)]
            · rw [if_neg hj2, if_neg (by omega), if_neg (by omega), if_neg (by omega)]
  refine AM_of0 rfl rfl (by decide) (Nat.le_of_ble_eq_true rfl) ?_
  refine ok_Pi_dropOldest.go [1] 5 0 ?_; simp only [c_Pi_dropOldest, op_aald, op_aast, op_alen, op_aload, op_astore, op_ci, op_getr, op_goto, op_icge, op_iinc, op_iload, op_istore, op_isub, op_puti, op_ret, ATY, wpB, wpJ, List.getD_cons_zero, List.getD_cons_succ, lg, lst, lu, spl, catS, catV, c1, List.mem_cons, List.not_mem_nil, or_false, false_or, or_true, true_or, ite_true, ite_false, if_true, if_false, reduceIte, Nat.zero_le, true_and, and_true, Nat.sub_zero, Nat.sub_self, List.nil_append, List.cons_append, List.append_nil, Option.toList_some, Option.toList_none, List.length_cons, List.length_nil, Nat.reduceAdd, Nat.reduceLeDiff, Nat.reduceEqDiff, reduceCtorEq, false_implies, implies_true, not_false_eq_true, not_true_eq_false, List.replicate_succ, List.replicate_zero, Int.reduceLT, Int.reduceLE, Int.reduceEq, Int.reduceNe, Int.reduceToNat, Int.reduceNeg, Int.reduceAdd, Int.reduceSub, Int.reduceMul, Option.some.injEq, Sum.inl.injEq, Sum.inr.injEq, ne_eq, not_true, not_false_iff, Int.toNat_natCast, forall_const, and_false, false_and, and_self, eq_self, lc_lt, lc_gt, lc_le, lc_eq, Nat.reduceSub, nc_2, nc_5, nc_6, nc_8, nc_9, nc_10, nc_22, nc_30, nc_41, nc_44, nc_59, nc_176, nc_200, nc_1000, nc_2886, nn0, gi_si, gr_si, gl_si, cn_si, gi_sr, gr_sr, gl_sr, cn_sr, gi_sl, gr_sl, gl_sl, cn_sl, SC_0, SC_1, SC_2, SC_3, SC_4, SC_5, SC_6, SC_7, SC_8, SC_9, SC_10, SC_11, SC_12, SC_13, SC_14, SC_15, SC_16, SC_17, SC_18, SC_19, SC_20, SC_21, SC_22, SC_23, SC_24, SC_25, SC_26, SC_27, SC_28, SC_29, SC_30, SC_31, SC_32, SC_33, SC_34, SC_35, SC_36, SC_37, SC_38, SC_39, SC_40, SC_41, SC_42, SC_43, SC_44, SC_45, SC_46, SC_47, SC_48, SC_49, SC_50, SC_51, SC_52, SC_53, SC_54, SC_55, SC_56, SC_57, SC_58, SC_59, SC_60, SC_61, SC_62, SC_63, SC_64, SC_65, SC_66, SC_67, SC_68, SC_69, SC_70, SC_71, SC_72, SC_73, SC_74, SC_75, SC_76, SC_77, SC_78, SC_79, SC_80, SC_81, entL, show m_Pi_dropOldest.2.2.1 = 3 from rfl, g_22_0 hg]
  exact loop 7 1 h none (by omega) (by omega) ⟨rfl, fun _ _ => rfl, fun _ _ => rfl, fun _ _ _ => rfl, fun j => by
    rw [if_neg (by omega)]
    split
    · rw [show j = 0 by omega]
    · rfl⟩
def pshP (pa : Nat → Int) (un : Int) (w : Nat → Int) : Nat → Int := if un = 8 then put (shf pa) 7 w else put pa un.toNat w
def pshN (un : Int) : Int := if un = 8 then 8 else un + 1
set_option maxRecDepth 100000 in
theorem s_Pi_push22 {h : AH} {pa : Nat → Int} {un n : Int} {w : Nat → Int} {Q : Option AV → AH → Prop} (hg : GC h) (hu : 0 ≤ un ∧ un ≤ 8) (hn : n ≤ 9) (hpi : PiC h 22 23 24 8 pa un n) (hw : SdC h 15 w n)
    (hq : ∀ h', SmU h h' → PiC h' 22 23 24 8 (pshP pa un w) (pshN un) n → Q none h') : AM SC m_Pi_push [.inr (.inr 22), .inr (.inr 15)] h Q := by
  by_cases h8 : un = 8
  · subst h8
    obtain ⟨p1, p2, p3, p4⟩ := id hpi
    refine AM_of0 rfl rfl (by decide) (Nat.le_of_ble_eq_true rfl) ?_
    refine ok_Pi_push.go [1] 3 0 ?_; simp only [c_Pi_push, op_aald, op_alen, op_aload, op_ci, op_dup, op_geti, op_getr, op_goto, op_iadd, op_icge, op_ifeq, op_invV, op_puti, op_ret, mc_Pi_dropOldest, ms_Pi_dropOldest, mc_Pi_isFull, ms_Pi_isFull, mc_St_copyFrom, ms_St_copyFrom, ATY, wpB, wpJ, List.getD_cons_zero, List.getD_cons_succ, lg, lst, lu, spl, catS, catV, c1, List.mem_cons, List.not_mem_nil, or_false, false_or, or_true, true_or, ite_true, ite_false, if_true, if_false, reduceIte, Nat.zero_le, true_and, and_true, Nat.sub_zero, Nat.sub_self, List.nil_append, List.cons_append, List.append_nil, Option.toList_some, Option.toList_none, List.length_cons, List.length_nil, Nat.reduceAdd, Nat.reduceLeDiff, Nat.reduceEqDiff, reduceCtorEq, false_implies, implies_true, not_false_eq_true, not_true_eq_false, List.replicate_succ, List.replicate_zero, Int.reduceLT, Int.reduceLE, Int.reduceEq, Int.reduceNe, Int.reduceToNat, Int.reduceNeg, Int.reduceAdd, Int.reduceSub, Int.reduceMul, Option.some.injEq, Sum.inl.injEq, Sum.inr.injEq, ne_eq, not_true, not_false_iff, Int.toNat_natCast, forall_const, and_false, false_and, and_self, eq_self, lc_lt, lc_gt, lc_le, lc_eq, Nat.reduceSub, nc_2, nc_5, nc_6, nc_8, nc_9, nc_10, nc_22, nc_30, nc_41, nc_44, nc_59, nc_176, nc_200, nc_1000, nc_2886, nn0, gi_si, gr_si, gl_si, cn_si, gi_sr, gr_sr, gl_sr, cn_sr, gi_sl, gr_sl, gl_sl, cn_sl, SC_0, SC_1, SC_2, SC_3, SC_4, SC_5, SC_6, SC_7, SC_8, SC_9, SC_10, SC_11, SC_12, SC_13, SC_14, SC_15, SC_16, SC_17, SC_18, SC_19, SC_20, SC_21, SC_22, SC_23, SC_24, SC_25, SC_26, SC_27, SC_28, SC_29, SC_30, SC_31, SC_32, SC_33, SC_34, SC_35, SC_36, SC_37, SC_38, SC_39, SC_40, SC_41, SC_42, SC_43, SC_44, SC_45, SC_46, SC_47, SC_48, SC_49, SC_50, SC_51, SC_52, SC_53, SC_54, SC_55, SC_56, SC_57, SC_58, SC_59, SC_60, SC_61, SC_62, SC_63, SC_64, SC_65, SC_66, SC_67, SC_68, SC_69, SC_70, SC_71, SC_72, SC_73, SC_74, SC_75, SC_76, SC_77, SC_78, SC_79, SC_80, SC_81, entL, show m_Pi_push.2.2.1 = 2 from rfl, g_22_0 hg]
    refine AM_of0 rfl rfl (by decide) (Nat.le_of_ble_eq_true rfl) ?_
    have l8 : (8 : Nat) < 2147483648 := by omega
    refine ok_Pi_isFull.go [] 3 0 ?_; simp only [c_Pi_isFull, op_alen, op_aload, op_ci, op_geti, op_getr, op_goto, op_iclt, op_zret, ATY, wpB, wpJ, List.getD_cons_zero, List.getD_cons_succ, lg, lst, lu, spl, catS, catV, c1, List.mem_cons, List.not_mem_nil, or_false, false_or, or_true, true_or, ite_true, ite_false, if_true, if_false, reduceIte, Nat.zero_le, true_and, and_true, Nat.sub_zero, Nat.sub_self, List.nil_append, List.cons_append, List.append_nil, Option.toList_some, Option.toList_none, List.length_cons, List.length_nil, Nat.reduceAdd, Nat.reduceLeDiff, Nat.reduceEqDiff, reduceCtorEq, false_implies, implies_true, not_false_eq_true, not_true_eq_false, List.replicate_succ, List.replicate_zero, Int.reduceLT, Int.reduceLE, Int.reduceEq, Int.reduceNe, Int.reduceToNat, Int.reduceNeg, Int.reduceAdd, Int.reduceSub, Int.reduceMul, Option.some.injEq, Sum.inl.injEq, Sum.inr.injEq, ne_eq, not_true, not_false_iff, Int.toNat_natCast, forall_const, and_false, false_and, and_self, eq_self, lc_lt, lc_gt, lc_le, lc_eq, Nat.reduceSub, nc_2, nc_5, nc_6, nc_8, nc_9, nc_10, nc_22, nc_30, nc_41, nc_44, nc_59, nc_176, nc_200, nc_1000, nc_2886, nn0, gi_si, gr_si, gl_si, cn_si, gi_sr, gr_sr, gl_sr, cn_sr, gi_sl, gr_sl, gl_sl, cn_sl, SC_0, SC_1, SC_2, SC_3, SC_4, SC_5, SC_6, SC_7, SC_8, SC_9, SC_10, SC_11, SC_12, SC_13, SC_14, SC_15, SC_16, SC_17, SC_18, SC_19, SC_20, SC_21, SC_22, SC_23, SC_24, SC_25, SC_26, SC_27, SC_28, SC_29, SC_30, SC_31, SC_32, SC_33, SC_34, SC_35, SC_36, SC_37, SC_38, SC_39, SC_40, SC_41, SC_42, SC_43, SC_44, SC_45, SC_46, SC_47, SC_48, SC_49, SC_50, SC_51, SC_52, SC_53, SC_54, SC_55, SC_56, SC_57, SC_58, SC_59, SC_60, SC_61, SC_62, SC_63, SC_64, SC_65, SC_66, SC_67, SC_68, SC_69, SC_70, SC_71, SC_72, SC_73, SC_74, SC_75, SC_76, SC_77, SC_78, SC_79, SC_80, SC_81, entL, show m_Pi_isFull.2.2.1 = 1 from rfl, g_22_0 hg, p1, ATY, l8]
    refine s_Pi_drop hg p2 (fun h' hs e1 e2 e3 e4 => ?_)
    simp only [c_Pi_push, op_aald, op_alen, op_aload, op_ci, op_dup, op_geti, op_getr, op_goto, op_iadd, op_icge, op_ifeq, op_invV, op_puti, op_ret, mc_Pi_dropOldest, ms_Pi_dropOldest, mc_Pi_isFull, ms_Pi_isFull, mc_St_copyFrom, ms_St_copyFrom, ATY, wpB, wpJ, List.getD_cons_zero, List.getD_cons_succ, lg, lst, lu, spl, catS, catV, c1, List.mem_cons, List.not_mem_nil, or_false, false_or, or_true, true_or, ite_true, ite_false, if_true, if_false, reduceIte, Nat.zero_le, true_and, and_true, Nat.sub_zero, Nat.sub_self, List.nil_append, List.cons_append, List.append_nil, Option.toList_some, Option.toList_none, List.length_cons, List.length_nil, Nat.reduceAdd, Nat.reduceLeDiff, Nat.reduceEqDiff, reduceCtorEq, false_implies, implies_true, not_false_eq_true, not_true_eq_false, List.replicate_succ, List.replicate_zero, Int.reduceLT, Int.reduceLE, Int.reduceEq, Int.reduceNe, Int.reduceToNat, Int.reduceNeg, Int.reduceAdd, Int.reduceSub, Int.reduceMul, Option.some.injEq, Sum.inl.injEq, Sum.inr.injEq, ne_eq, not_true, not_false_iff, Int.toNat_natCast, forall_const, and_false, false_and, and_self, eq_self, lc_lt, lc_gt, lc_le, lc_eq, Nat.reduceSub, nc_2, nc_5, nc_6, nc_8, nc_9, nc_10, nc_22, nc_30, nc_41, nc_44, nc_59, nc_176, nc_200, nc_1000, nc_2886, nn0, gi_si, gr_si, gl_si, cn_si, gi_sr, gr_sr, gl_sr, cn_sr, gi_sl, gr_sl, gl_sl, cn_sl, SC_0, SC_1, SC_2, SC_3, SC_4, SC_5, SC_6, SC_7, SC_8, SC_9, SC_10, SC_11, SC_12, SC_13, SC_14, SC_15, SC_16, SC_17, SC_18, SC_19, SC_20, SC_21, SC_22, SC_23, SC_24, SC_25, SC_26, SC_27, SC_28, SC_29, SC_30, SC_31, SC_32, SC_33, SC_34, SC_35, SC_36, SC_37, SC_38, SC_39, SC_40, SC_41, SC_42, SC_43, SC_44, SC_45, SC_46, SC_47, SC_48, SC_49, SC_50, SC_51, SC_52, SC_53, SC_54, SC_55, SC_56, SC_57, SC_58, SC_59, SC_60, SC_61, SC_62, SC_63, SC_64, SC_65, SC_66, SC_67, SC_68, SC_69, SC_70, SC_71, SC_72, SC_73, SC_74, SC_75, SC_76, SC_77, SC_78, SC_79, SC_80, SC_81]
    have e5 : ∀ i, i < 8 → gr h' 23 i = gr h 23 (if i < 7 then i + 1 else 0) := fun i hi => by
      by_cases h7 : i < 7
      · rw [if_pos h7]; exact e1 i h7
      · rw [if_neg h7, show i = 7 by omega]; exact e2
    refine a_Pi_put (pa := shf pa) (u := 7) (n := n) (w := w) (hg.smu hs) (Or.inl ⟨rfl, rfl, rfl, rfl⟩) (by omega) hn ⟨e3, fun i hi => ?_, fun i j hi hj hij => ?_, fun i hi => ?_⟩ (hw.ext (fun a g1 g2 j => e4 a j (by omega))) (fun h2 hs2 hp2 => ?_)
    · rw [e5 i hi]
      exact p2 _ (by split <;> omega)
    · rw [e5 i hi, e5 j hj] at hij
      have := p3 _ _ (by split <;> omega) (by split <;> omega) hij
      split at this <;> split at this <;> omega
    · rw [e1 i (by omega)]
      have := p4 (i + 1) (by omega)
      obtain ⟨m, hm, em⟩ := p2 (i + 1) (by omega)
      refine SdC.vx hn (v := fun j => pa (22 * (i + 1) + j)) (fun j hj => ?_) (this.ext (fun a g1 g2 j => e4 a j (by omega)))
      unfold shf
      rw [if_pos (by omega)]
      congr 1
      omega
    · refine hq h2 (hs.trans (SmU.of hs2)) ?_
      unfold pshP pshN
      rw [if_pos rfl, if_pos rfl]
      exact hp2
  · obtain ⟨u, rfl⟩ := Int.eq_ofNat_of_zero_le hu.1
    refine s_Pi_put hg (Or.inl ⟨rfl, rfl, rfl, rfl⟩) (by omega) hn hpi hw (fun h' hs hp => hq h' (SmU.of hs) ?_)
    unfold pshP pshN
    rw [if_neg h8, if_neg h8]
    have : ((u + 1 : Nat) : Int) = (u : Int) + 1 := by omega
    rw [← this]
    exact hp
/-! the reference -/
set_option maxRecDepth 100000 in
theorem s_Mo_copies {h : AH} {a b na nb i j : Nat} {Q : Option AV → AH → Prop} (ha : SM a = some (.inr (.int, na))) (hb : SM b = some (.inr (.int, nb))) (hab : a ≠ b) (hi : i + 22 ≤ na) (hj : j + 22 ≤ nb) (hs : na < 1000 ∧ nb < 1000)
    (hq : ∀ h', Sm (fun x => x = b) h h' → (∀ x, gi h' b x = if j ≤ x ∧ x < j + 22 then gi h a (i + (x - j)) else gi h b x) → Q none h') : AM SM m_Mo_copies [.inr (.inr a), .inl i, .inr (.inr b), .inl j] h Q := by
  have loop : ∀ (m n : Nat) (h' : AH), 22 = n + m → Sm (fun x => x = b) h h' → (∀ x, gi h' b x = if j ≤ x ∧ x < j + n then gi h a (i + (x - j)) else gi h b x) → AW SM m_Mo_copies 0 0 (t_Mo_copies 1) [some (.inr (.inr a)), some (.inl i), some (.inr (.inr b)), some (.inl j), some (.inl n)] [] h' Q := by
    intro m
    induction m with
    | zero =>
      intro n h' hn hs' hx
      refine ok_Mo_copies.go [1] 5 1 ?_; simp only [c_Mo_copies, op_aload, op_ci, op_goto, op_iadd, op_iald, op_iast, op_icge, op_iinc, op_iload, op_istore, op_ret, wpB, wpJ, List.getD_cons_zero, List.getD_cons_succ, lg, lst, lu, spl, catS, catV, c1, List.mem_cons, List.not_mem_nil, or_false, false_or, or_true, true_or, ite_true, ite_false, if_true, if_false, reduceIte, Nat.zero_le, true_and, and_true, Nat.sub_zero, Nat.sub_self, List.nil_append, List.cons_append, List.append_nil, Option.toList_some, Option.toList_none, List.length_cons, List.length_nil, Nat.reduceAdd, Nat.reduceLeDiff, Nat.reduceEqDiff, reduceCtorEq, false_implies, implies_true, not_false_eq_true, not_true_eq_false, List.replicate_succ, List.replicate_zero, Int.reduceLT, Int.reduceLE, Int.reduceEq, Int.reduceNe, Int.reduceToNat, Int.reduceNeg, Int.reduceAdd, Int.reduceSub, Int.reduceMul, Option.some.injEq, Sum.inl.injEq, Sum.inr.injEq, ne_eq, not_true, not_false_iff, Int.toNat_natCast, forall_const, and_false, false_and, and_self, eq_self, lc_lt, lc_gt, lc_le, lc_eq, Nat.reduceSub, nc_2, nc_5, nc_6, nc_8, nc_9, nc_10, nc_22, nc_30, nc_41, nc_44, nc_59, nc_176, nc_200, nc_1000, nc_2886, nn0, gi_si, gr_si, gl_si, cn_si, gi_sr, gr_sr, gl_sr, cn_sr, gi_sl, gr_sl, gl_sl, cn_sl, SM_0, SM_1, SM_2, SM_3, SM_4, SM_5, SM_6, SM_7, SM_8, SM_9, SM_10, SM_11, SM_12, SM_13, SM_14, SM_15, SM_16, SM_17, SM_18, SM_19, SM_20, entL, show m_Mo_copies.2.2.1 = 5 from rfl]
      refine ⟨fun _ => hq h' hs' (fun x => ?_), fun q => by omega⟩
      rw [hx x, show n = 22 by omega]
    | succ m ih =>
      intro n h' hn hs' hx
      have w1 : wr ((j : Int) + n) = ((j + n : Nat) : Int) := by rw [wr_id (by omega) (by omega)]; omega
      have w2 : wr ((i : Int) + n) = ((i + n : Nat) : Int) := by rw [wr_id (by omega) (by omega)]; omega
      have w3 : wr ((n : Int) + 1) = ((n + 1 : Nat) : Int) := by rw [wr_id (by omega) (by omega)]; omega
      have b1 : ((j + n : Nat) : Int) < ((nb : Nat) : Int) := by omega
      have b2 : ((i + n : Nat) : Int) < ((na : Nat) : Int) := by omega
      refine ok_Mo_copies.go [1] 5 1 ?_; simp only [c_Mo_copies, op_aload, op_ci, op_goto, op_iadd, op_iald, op_iast, op_icge, op_iinc, op_iload, op_istore, op_ret, wpB, wpJ, List.getD_cons_zero, List.getD_cons_succ, lg, lst, lu, spl, catS, catV, c1, List.mem_cons, List.not_mem_nil, or_false, false_or, or_true, true_or, ite_true, ite_false, if_true, if_false, reduceIte, Nat.zero_le, true_and, and_true, Nat.sub_zero, Nat.sub_self, List.nil_append, List.cons_append, List.append_nil, Option.toList_some, Option.toList_none, List.length_cons, List.length_nil, Nat.reduceAdd, Nat.reduceLeDiff, Nat.reduceEqDiff, reduceCtorEq, false_implies, implies_true, not_false_eq_true, not_true_eq_false, List.replicate_succ, List.replicate_zero, Int.reduceLT, Int.reduceLE, Int.reduceEq, Int.reduceNe, Int.reduceToNat, Int.reduceNeg, Int.reduceAdd, Int.reduceSub, Int.reduceMul, Option.some.injEq, Sum.inl.injEq, Sum.inr.injEq, ne_eq, not_true, not_false_iff, Int.toNat_natCast, forall_const, and_false, false_and, and_self, eq_self, lc_lt, lc_gt, lc_le, lc_eq, Nat.reduceSub, nc_2, nc_5, nc_6, nc_8, nc_9, nc_10, nc_22, nc_30, nc_41, nc_44, nc_59, nc_176, nc_200, nc_1000, nc_2886, nn0, gi_si, gr_si, gl_si, cn_si, gi_sr, gr_sr, gl_sr, cn_sr, gi_sl, gr_sl, gl_sl, cn_sl, SM_0, SM_1, SM_2, SM_3, SM_4, SM_5, SM_6, SM_7, SM_8, SM_9, SM_10, SM_11, SM_12, SM_13, SM_14, SM_15, SM_16, SM_17, SM_18, SM_19, SM_20, entL, show m_Mo_copies.2.2.1 = 5 from rfl, ha, hb, w1, w2, w3, b1, b2]
      refine ⟨fun q => by omega, fun _ => ?_⟩
      refine ih (n + 1) _ (by omega) (hs'.si rfl) (fun x => ?_)
      rw [gi_si, hx x, (hs'.2.2 a hab).1]
      by_cases g : x = j + n
      · subst g
        rw [if_pos ⟨rfl, rfl⟩, if_pos (by omega), show i + (j + n - j) = i + n by omega]
      · rw [if_neg (fun z => g z.2)]
        by_cases g2 : j ≤ x ∧ x < j + n
        · rw [if_pos g2, if_pos (by omega)]
        · rw [if_neg g2, if_neg (by omega)]
  refine AM_of0 rfl rfl (by decide) (Nat.le_of_ble_eq_true rfl) ?_
  refine ok_Mo_copies.go [1] 5 0 ?_; simp only [c_Mo_copies, op_aload, op_ci, op_goto, op_iadd, op_iald, op_iast, op_icge, op_iinc, op_iload, op_istore, op_ret, wpB, wpJ, List.getD_cons_zero, List.getD_cons_succ, lg, lst, lu, spl, catS, catV, c1, List.mem_cons, List.not_mem_nil, or_false, false_or, or_true, true_or, ite_true, ite_false, if_true, if_false, reduceIte, Nat.zero_le, true_and, and_true, Nat.sub_zero, Nat.sub_self, List.nil_append, List.cons_append, List.append_nil, Option.toList_some, Option.toList_none, List.length_cons, List.length_nil, Nat.reduceAdd, Nat.reduceLeDiff, Nat.reduceEqDiff, reduceCtorEq, false_implies, implies_true, not_false_eq_true, not_true_eq_false, List.replicate_succ, List.replicate_zero, Int.reduceLT, Int.reduceLE, Int.reduceEq, Int.reduceNe, Int.reduceToNat, Int.reduceNeg, Int.reduceAdd, Int.reduceSub, Int.reduceMul, Option.some.injEq, Sum.inl.injEq, Sum.inr.injEq, ne_eq, not_true, not_false_iff, Int.toNat_natCast, forall_const, and_false, false_and, and_self, eq_self, lc_lt, lc_gt, lc_le, lc_eq, Nat.reduceSub, nc_2, nc_5, nc_6, nc_8, nc_9, nc_10, nc_22, nc_30, nc_41, nc_44, nc_59, nc_176, nc_200, nc_1000, nc_2886, nn0, gi_si, gr_si, gl_si, cn_si, gi_sr, gr_sr, gl_sr, cn_sr, gi_sl, gr_sl, gl_sl, cn_sl, SM_0, SM_1, SM_2, SM_3, SM_4, SM_5, SM_6, SM_7, SM_8, SM_9, SM_10, SM_11, SM_12, SM_13, SM_14, SM_15, SM_16, SM_17, SM_18, SM_19, SM_20, entL, show m_Mo_copies.2.2.1 = 5 from rfl]
  exact loop 22 0 h (by omega) Sm.rfl' (fun x => by rw [if_neg (by omega)])
