/-! ROUND: the model -/
def RR (h : AH) (st : St3) : Prop := gi h 1 22 = (st.2.1 : Nat) ∧ gi h 1 23 = st.1 ∧ ∀ j, j < st.2.2.length → gi h 15 j = ((nt st.2.2 j : Nat) : Int)
def chF (k w : Nat → Int) (n m : Nat) (p s : Int) (pre : List Nat) : Nat → St3 → St3 := fun r st => if mayb k w r p = true then dfs k w n m (oth k r p) (crs (k (5 + r)) s (fig k w r p)) (pre ++ [r]) st else st
theorem dfs_lp (k w : Nat → Int) (n m : Nat) (p s : Int) (pre : List Nat) (st : St3) : dfs k w n (m + 1) p s pre st = lp (chF k w n m p s pre) (k 1).toNat st := rfl
theorem RR.si {h : AH} {st : St3} (hr : RR h st) {o j : Nat} {v : Int} (ho : o ≠ 1 ∧ o ≠ 15) : RR (si h o j v) st := by
  refine ⟨?_, ?_, fun i hi => ?_⟩
  · rw [gi_si, if_neg (by omega)]; exact hr.1
  · rw [gi_si, if_neg (by omega)]; exact hr.2.1
  · rw [gi_si, if_neg (by omega)]; exact hr.2.2 i hi
set_option maxRecDepth 100000 in
theorem s_Mo_layRounds {hM : AH} {k w : Nat → Int} {n : Nat} {st : St3} {Q : Option AV → AH → Prop} (hRm : RM hM k w) (hI : Inv k w) (hn : 1 ≤ n ∧ n ≤ 5) (hst : RR hM st) (hq : ∀ h', KM hM h' → RR h' (dfs k w n n (w 0) (w 1) [] st) → Q none h') : AM SM m_Mo_layRounds [.inr (.inr 1), .inl n] hM Q := by
  have h0 := hI.1
  have hk := hI.2.1
  have hw0 := hI.2.2.2.2.2.1
  have hw1 := hI.2.2.2.2.2.2.1
  have w2 : wr ((n : Int) - 1) = ((n - 1 : Nat) : Int) := by rw [wr_id (by omega) (by omega)]; omega
  -- block 4: the row is kept
  have copy : ∀ (m2 j : Nat) (h' : AH) (d x3 x4 : Option AV) (x5 : Int) (row : List Nat), n = j + m2 → KM hM h' → (∀ i, i < n → gi h' 12 i = ((nt row i : Nat) : Int)) → (∀ i, i < j → gi h' 15 i = ((nt row i : Nat) : Int)) → (∀ h2 x6, KM hM h2 → (∀ a, a ≠ 15 → ∀ i, gi h2 a i = gi h' a i) → (∀ i, i < n → gi h2 15 i = ((nt row i : Nat) : Int)) → AW SM m_Mo_layRounds 0 0 (t_Mo_layRounds 1) [some (.inr (.inr 1)), some (.inl n), d, x3, x4, some (.inl x5), x6] [] h2 Q) → AW SM m_Mo_layRounds 0 0 (t_Mo_layRounds 4) [some (.inr (.inr 1)), some (.inl n), d, x3, x4, some (.inl x5), some (.inl j)] [] h' Q := by
    intro m2
    induction m2 with
    | zero =>
      intro j h' d x3 x4 x5 row hj hs h12 h15 hk'
      refine ok_Mo_layRounds.go [1, 4] 5 4 ?_; simp only [c_Mo_layRounds, op_aload, op_ci, op_dup2, op_geti, op_getr, op_goto, op_iadd, op_iald, op_iast, op_icge, op_icle, op_iclt, op_icne, op_ifeq, op_iflt, op_iinc, op_iload, op_invV, op_istore, op_isub, op_puti, op_ret, mc_Mo_byNow, ms_Mo_byNow, mc_Mo_mayCross, ms_Mo_mayCross, mc_Mo_otherEnd, ms_Mo_otherEnd, wpB, wpJ, List.getD_cons_zero, List.getD_cons_succ, lg, lst, lu, spl, catS, catV, c1, List.mem_cons, List.not_mem_nil, or_false, false_or, or_true, true_or, ite_true, ite_false, if_true, if_false, reduceIte, Nat.zero_le, true_and, and_true, Nat.sub_zero, Nat.sub_self, List.nil_append, List.cons_append, List.append_nil, Option.toList_some, Option.toList_none, List.length_cons, List.length_nil, Nat.reduceAdd, Nat.reduceLeDiff, Nat.reduceEqDiff, reduceCtorEq, false_implies, implies_true, not_false_eq_true, not_true_eq_false, List.replicate_succ, List.replicate_zero, Int.reduceLT, Int.reduceLE, Int.reduceEq, Int.reduceNe, Int.reduceToNat, Int.reduceNeg, Int.reduceAdd, Int.reduceSub, Int.reduceMul, Option.some.injEq, Sum.inl.injEq, Sum.inr.injEq, ne_eq, not_true, not_false_iff, Int.toNat_natCast, forall_const, and_false, false_and, and_self, eq_self, lc_lt, lc_gt, lc_le, lc_eq, Nat.reduceSub, nc_2, nc_5, nc_6, nc_8, nc_9, nc_10, nc_22, nc_30, nc_41, nc_44, nc_59, nc_176, nc_200, nc_1000, nc_2886, nn0, gi_si, gr_si, gl_si, cn_si, gi_sr, gr_sr, gl_sr, cn_sr, gi_sl, gr_sl, gl_sl, cn_sl, SM_0, SM_1, SM_2, SM_3, SM_4, SM_5, SM_6, SM_7, SM_8, SM_9, SM_10, SM_11, SM_12, SM_13, SM_14, SM_15, SM_16, SM_17, SM_18, SM_19, SM_20, entL, show m_Mo_layRounds.2.2.1 = 7 from rfl]
      exact ⟨fun _ => hk' h' _ hs (fun _ _ _ => rfl) (fun i hi => h15 i (by omega)), fun q => by omega⟩
    | succ m2 ih =>
      intro j h' d x3 x4 x5 row hj hs h12 h15 hk'
      have hg := (hRm.km hs).1
      have j6 : (j : Int) < 6 := by omega
      have w1 : wr ((j : Int) + 1) = ((j + 1 : Nat) : Int) := by rw [wr_id (by omega) (by omega)]; omega
      refine ok_Mo_layRounds.go [1, 4] 5 4 ?_; simp only [c_Mo_layRounds, op_aload, op_ci, op_dup2, op_geti, op_getr, op_goto, op_iadd, op_iald, op_iast, op_icge, op_icle, op_iclt, op_icne, op_ifeq, op_iflt, op_iinc, op_iload, op_invV, op_istore, op_isub, op_puti, op_ret, mc_Mo_byNow, ms_Mo_byNow, mc_Mo_mayCross, ms_Mo_mayCross, mc_Mo_otherEnd, ms_Mo_otherEnd, wpB, wpJ, List.getD_cons_zero, List.getD_cons_succ, lg, lst, lu, spl, catS, catV, c1, List.mem_cons, List.not_mem_nil, or_false, false_or, or_true, true_or, ite_true, ite_false, if_true, if_false, reduceIte, Nat.zero_le, true_and, and_true, Nat.sub_zero, Nat.sub_self, List.nil_append, List.cons_append, List.append_nil, Option.toList_some, Option.toList_none, List.length_cons, List.length_nil, Nat.reduceAdd, Nat.reduceLeDiff, Nat.reduceEqDiff, reduceCtorEq, false_implies, implies_true, not_false_eq_true, not_true_eq_false, List.replicate_succ, List.replicate_zero, Int.reduceLT, Int.reduceLE, Int.reduceEq, Int.reduceNe, Int.reduceToNat, Int.reduceNeg, Int.reduceAdd, Int.reduceSub, Int.reduceMul, Option.some.injEq, Sum.inl.injEq, Sum.inr.injEq, ne_eq, not_true, not_false_iff, Int.toNat_natCast, forall_const, and_false, false_and, and_self, eq_self, lc_lt, lc_gt, lc_le, lc_eq, Nat.reduceSub, nc_2, nc_5, nc_6, nc_8, nc_9, nc_10, nc_22, nc_30, nc_41, nc_44, nc_59, nc_176, nc_200, nc_1000, nc_2886, nn0, gi_si, gr_si, gl_si, cn_si, gi_sr, gr_sr, gl_sr, cn_sr, gi_sl, gr_sl, gl_sl, cn_sl, SM_0, SM_1, SM_2, SM_3, SM_4, SM_5, SM_6, SM_7, SM_8, SM_9, SM_10, SM_11, SM_12, SM_13, SM_14, SM_15, SM_16, SM_17, SM_18, SM_19, SM_20, entL, show m_Mo_layRounds.2.2.1 = 7 from rfl, gm_0 hg, gm_2 hg, gm_18 hg, gm_19 hg, gm_20 hg, gm_21 hg, j6, w1]
      refine ⟨fun q => by omega, fun _ => ih (j + 1) _ _ _ _ _ row (by omega) (hs.si (Or.inl ⟨by omega, by omega, by omega⟩)) (fun i hi => by rw [gi_si, if_neg (by omega)]; exact h12 i hi) (fun i hi => ?_) (fun h2 x6 hs2 e2 f2 => hk' h2 x6 hs2 (fun a ha i => by rw [e2 a ha i, gi_si, if_neg (fun z => ha z.1)]) f2)⟩
      rw [gi_si]
      by_cases g : i = j
      · rw [if_pos ⟨rfl, g⟩, h12 j (by omega), g]
      · rw [if_neg (fun z => g z.2)]; exact h15 i (by omega)
  -- block 1: all rows behind pre
  have node : ∀ (m d : Nat) (p s : Int) (pre : List Nat) (st0 : St3), n = d + (m + 1) → pre.length = d → (0 ≤ p ∧ p < k 0) → (0 ≤ s ∧ s ≤ 999) → ∀ (cnt i : Nat) (h : AH) (x3 x4 x5 x6 : Option AV), (k 1).toNat = i + cnt → KM hM h → gi h 12 d = (i : Int) - 1 → (∀ j, j < d → gi h 12 j = ((nt pre j : Nat) : Int)) → gi h 13 d = p → gi h 14 d = s → RR h (lp (chF k w n m p s pre) i st0) →
      (∀ h' x3 x4 x5 x6, KM hM h' → (∀ j, j < d → gi h' 12 j = gi h 12 j ∧ gi h' 13 j = gi h 13 j ∧ gi h' 14 j = gi h 14 j) → RR h' (dfs k w n (m + 1) p s pre st0) → AW SM m_Mo_layRounds 0 0 (t_Mo_layRounds 1) [some (.inr (.inr 1)), some (.inl n), some (.inl ((d : Int) - 1)), x3, x4, x5, x6] [] h' Q) →
      AW SM m_Mo_layRounds 0 0 (t_Mo_layRounds 1) [some (.inr (.inr 1)), some (.inl n), some (.inl d), x3, x4, x5, x6] [] h Q := by
    intro m
    induction m using Nat.strongRecOn with
    | _ m ihm =>
      intro d p s pre st0 hd hl hp hs cnt
      induction cnt with
      | zero =>
        intro i h x3 x4 x5 x6 hi hK h12 hpre h13 h14 hrr hk'
        have hR := hRm.km hK
        have hg := hR.1
        have d6 : (d : Int) < 6 := by omega
        have w1 : wr ((i : Int) - 1 + 1) = (i : Int) := by rw [wr_id (by omega) (by omega)]; omega
        have w3 : wr ((d : Int) + -1) = (d : Int) - 1 := by rw [wr_id (by omega) (by omega)]; omega
        refine ok_Mo_layRounds.go [1, 4] 5 1 ?_; simp only [c_Mo_layRounds, op_aload, op_ci, op_dup2, op_geti, op_getr, op_goto, op_iadd, op_iald, op_iast, op_icge, op_icle, op_iclt, op_icne, op_ifeq, op_iflt, op_iinc, op_iload, op_invV, op_istore, op_isub, op_puti, op_ret, mc_Mo_byNow, ms_Mo_byNow, mc_Mo_mayCross, ms_Mo_mayCross, mc_Mo_otherEnd, ms_Mo_otherEnd, wpB, wpJ, List.getD_cons_zero, List.getD_cons_succ, lg, lst, lu, spl, catS, catV, c1, List.mem_cons, List.not_mem_nil, or_false, false_or, or_true, true_or, ite_true, ite_false, if_true, if_false, reduceIte, Nat.zero_le, true_and, and_true, Nat.sub_zero, Nat.sub_self, List.nil_append, List.cons_append, List.append_nil, Option.toList_some, Option.toList_none, List.length_cons, List.length_nil, Nat.reduceAdd, Nat.reduceLeDiff, Nat.reduceEqDiff, reduceCtorEq, false_implies, implies_true, not_false_eq_true, not_true_eq_false, List.replicate_succ, List.replicate_zero, Int.reduceLT, Int.reduceLE, Int.reduceEq, Int.reduceNe, Int.reduceToNat, Int.reduceNeg, Int.reduceAdd, Int.reduceSub, Int.reduceMul, Option.some.injEq, Sum.inl.injEq, Sum.inr.injEq, ne_eq, not_true, not_false_iff, Int.toNat_natCast, forall_const, and_false, false_and, and_self, eq_self, lc_lt, lc_gt, lc_le, lc_eq, Nat.reduceSub, nc_2, nc_5, nc_6, nc_8, nc_9, nc_10, nc_22, nc_30, nc_41, nc_44, nc_59, nc_176, nc_200, nc_1000, nc_2886, nn0, gi_si, gr_si, gl_si, cn_si, gi_sr, gr_sr, gl_sr, cn_sr, gi_sl, gr_sl, gl_sl, cn_sl, SM_0, SM_1, SM_2, SM_3, SM_4, SM_5, SM_6, SM_7, SM_8, SM_9, SM_10, SM_11, SM_12, SM_13, SM_14, SM_15, SM_16, SM_17, SM_18, SM_19, SM_20, entL, show m_Mo_layRounds.2.2.1 = 7 from rfl, gm_0 hg, gm_2 hg, gm_18 hg, gm_19 hg, gm_20 hg, gm_21 hg, d6, h12, w1, w3, hR.2.1]
        refine ⟨fun q => by omega, fun _ => ⟨fun q => by omega, fun _ => hk' _ _ _ _ _ (hK.si (Or.inl ⟨by omega, by omega, by omega⟩)) (fun j hj => ⟨?_, ?_, ?_⟩) ?_⟩⟩
        · rw [gi_si, if_neg (by omega)]
        · rw [gi_si, if_neg (by omega)]
        · rw [gi_si, if_neg (by omega)]
        · rw [dfs_lp, show (k 1).toNat = i by omega]
          exact hrr.si ⟨by omega, by omega⟩
      | succ cnt ihc =>
        intro i h x3 x4 x5 x6 hi hK h12 hpre h13 h14 hrr hk'
        have hR := hRm.km hK
        have hg := hR.1
        have d6 : (d : Int) < 6 := by omega
        have hi1 : (i : Int) < k 1 := by omega
        have w1 : wr ((i : Int) - 1 + 1) = (i : Int) := by rw [wr_id (by omega) (by omega)]; omega
        refine ok_Mo_layRounds.go [1, 4] 5 1 ?_; simp only [c_Mo_layRounds, op_aload, op_ci, op_dup2, op_geti, op_getr, op_goto, op_iadd, op_iald, op_iast, op_icge, op_icle, op_iclt, op_icne, op_ifeq, op_iflt, op_iinc, op_iload, op_invV, op_istore, op_isub, op_puti, op_ret, mc_Mo_byNow, ms_Mo_byNow, mc_Mo_mayCross, ms_Mo_mayCross, mc_Mo_otherEnd, ms_Mo_otherEnd, wpB, wpJ, List.getD_cons_zero, List.getD_cons_succ, lg, lst, lu, spl, catS, catV, c1, List.mem_cons, List.not_mem_nil, or_false, false_or, or_true, true_or, ite_true, ite_false, if_true, if_false, reduceIte, Nat.zero_le, true_and, and_true, Nat.sub_zero, Nat.sub_self, List.nil_append, List.cons_append, List.append_nil, Option.toList_some, Option.toList_none, List.length_cons, List.length_nil, Nat.reduceAdd, Nat.reduceLeDiff, Nat.reduceEqDiff, reduceCtorEq, false_implies, implies_true, not_false_eq_true, not_true_eq_false, List.replicate_succ, List.replicate_zero, Int.reduceLT, Int.reduceLE, Int.reduceEq, Int.reduceNe, Int.reduceToNat, Int.reduceNeg, Int.reduceAdd, Int.reduceSub, Int.reduceMul, Option.some.injEq, Sum.inl.injEq, Sum.inr.injEq, ne_eq, not_true, not_false_iff, Int.toNat_natCast, forall_const, and_false, false_and, and_self, eq_self, lc_lt, lc_gt, lc_le, lc_eq, Nat.reduceSub, nc_2, nc_5, nc_6, nc_8, nc_9, nc_10, nc_22, nc_30, nc_41, nc_44, nc_59, nc_176, nc_200, nc_1000, nc_2886, nn0, gi_si, gr_si, gl_si, cn_si, gi_sr, gr_sr, gl_sr, cn_sr, gi_sl, gr_sl, gl_sl, cn_sl, SM_0, SM_1, SM_2, SM_3, SM_4, SM_5, SM_6, SM_7, SM_8, SM_9, SM_10, SM_11, SM_12, SM_13, SM_14, SM_15, SM_16, SM_17, SM_18, SM_19, SM_20, entL, show m_Mo_layRounds.2.2.1 = 7 from rfl, gm_0 hg, gm_2 hg, gm_18 hg, gm_19 hg, gm_20 hg, gm_21 hg, d6, h12, w1, hR.2.1, h13]
        refine ⟨fun q => by omega, fun _ => ⟨fun _ => ?_, fun q => by omega⟩⟩
        have hK1 : KM hM (si h 12 d i) := hK.si (Or.inl ⟨by omega, by omega, by omega⟩)
        have hR1 := hRm.km hK1
        have hg1 := hR1.1
        have f12 : gi (si h 12 d i) 12 d = i := by rw [gi_si, if_pos ⟨rfl, rfl⟩]
        have fpre : ∀ j, j < d → gi (si h 12 d i) 12 j = ((nt pre j : Nat) : Int) := fun j hj => by rw [gi_si, if_neg (by omega)]; exact hpre j hj
        have f13 : ∀ j, gi (si h 12 d i) 13 j = gi h 13 j := fun j => by rw [gi_si, if_neg (by omega)]
        have f14 : ∀ j, gi (si h 12 d i) 14 j = gi h 14 j := fun j => by rw [gi_si, if_neg (by omega)]
        have frr : RR (si h 12 d i) (lp (chF k w n m p s pre) i st0) := hrr.si ⟨by omega, by omega⟩
        have ii : ((i + 1 : Nat) : Int) - 1 = i := by omega
        have nxt : ∀ (h2 : AH) (x3 x4 x5 x6 : Option AV), KM hM h2 → gi h2 12 d = i → (∀ j, j < d → gi h2 12 j = gi h 12 j ∧ gi h2 13 j = gi h 13 j ∧ gi h2 14 j = gi h 14 j) → gi h2 13 d = p → gi h2 14 d = s → RR h2 (lp (chF k w n m p s pre) (i + 1) st0) → AW SM m_Mo_layRounds 0 0 (t_Mo_layRounds 1) [some (.inr (.inr 1)), some (.inl n), some (.inl d), x3, x4, x5, x6] [] h2 Q := by
          intro h2 x3 x4 x5 x6 hK2 e12 ekeep e13 e14 err
          refine ihc (i + 1) h2 x3 x4 x5 x6 (by omega) hK2 (by rw [ii]; exact e12) (fun j hj => by rw [(ekeep j hj).1]; exact hpre j hj) e13 e14 err (fun h3 y3 y4 y5 y6 hK3 g3 r3 => hk' h3 y3 y4 y5 y6 hK3 (fun j hj => ?_) r3)
          have a := g3 j hj
          have b := ekeep j hj
          exact ⟨a.1.trans b.1, a.2.1.trans b.2.1, a.2.2.trans b.2.2⟩
        have keep1 : ∀ j, j < d → gi (si h 12 d i) 12 j = gi h 12 j ∧ gi (si h 12 d i) 13 j = gi h 13 j ∧ gi (si h 12 d i) 14 j = gi h 14 j := fun j hj => ⟨by rw [gi_si, if_neg (by omega)], f13 j, f14 j⟩
        refine s_Mo_mayCross hR1 hI hi1 (fun hm => ?_) (fun hm => ?_)
        · have hb := mayb_iff.mpr hm
          have elp : lp (chF k w n m p s pre) (i + 1) st0 = dfs k w n m (oth k i p) (crs (k (5 + i)) s (fig k w i p)) (pre ++ [i]) (lp (chF k w n m p s pre) i st0) := by
            have e : ∀ x, chF k w n m p s pre i x = dfs k w n m (oth k i p) (crs (k (5 + i)) s (fig k w i p)) (pre ++ [i]) x := fun x => by unfold chF; rw [if_pos hb]
            exact e _
          rw [elp] at nxt
          have ho := oth_ok hI hi1 p
          have eo : otm k i p = oth k i p := (otm_lds hI hi1).2 hm.1
          have z13 : gi (si h 12 d i) 13 d = p := by rw [f13]; exact h13
          have z14 : gi (si h 12 d i) 14 d = s := by rw [f14]; exact h14
          simp only [c_Mo_layRounds, op_aload, op_ci, op_dup2, op_geti, op_getr, op_goto, op_iadd, op_iald, op_iast, op_icge, op_icle, op_iclt, op_icne, op_ifeq, op_iflt, op_iinc, op_iload, op_invV, op_istore, op_isub, op_puti, op_ret, mc_Mo_byNow, ms_Mo_byNow, mc_Mo_mayCross, ms_Mo_mayCross, mc_Mo_otherEnd, ms_Mo_otherEnd, wpB, wpJ, List.getD_cons_zero, List.getD_cons_succ, lg, lst, lu, spl, catS, catV, c1, List.mem_cons, List.not_mem_nil, or_false, false_or, or_true, true_or, ite_true, ite_false, if_true, if_false, reduceIte, Nat.zero_le, true_and, and_true, Nat.sub_zero, Nat.sub_self, List.nil_append, List.cons_append, List.append_nil, Option.toList_some, Option.toList_none, List.length_cons, List.length_nil, Nat.reduceAdd, Nat.reduceLeDiff, Nat.reduceEqDiff, reduceCtorEq, false_implies, implies_true, not_false_eq_true, not_true_eq_false, List.replicate_succ, List.replicate_zero, Int.reduceLT, Int.reduceLE, Int.reduceEq, Int.reduceNe, Int.reduceToNat, Int.reduceNeg, Int.reduceAdd, Int.reduceSub, Int.reduceMul, Option.some.injEq, Sum.inl.injEq, Sum.inr.injEq, ne_eq, not_true, not_false_iff, Int.toNat_natCast, forall_const, and_false, false_and, and_self, eq_self, lc_lt, lc_gt, lc_le, lc_eq, Nat.reduceSub, nc_2, nc_5, nc_6, nc_8, nc_9, nc_10, nc_22, nc_30, nc_41, nc_44, nc_59, nc_176, nc_200, nc_1000, nc_2886, nn0, gi_si, gr_si, gl_si, cn_si, gi_sr, gr_sr, gl_sr, cn_sr, gi_sl, gr_sl, gl_sl, cn_sl, SM_0, SM_1, SM_2, SM_3, SM_4, SM_5, SM_6, SM_7, SM_8, SM_9, SM_10, SM_11, SM_12, SM_13, SM_14, SM_15, SM_16, SM_17, SM_18, SM_19, SM_20, gm_0 hg1, gm_2 hg1, gm_18 hg1, gm_19 hg1, gm_20 hg1, gm_21 hg1, d6, z13]
          refine s_Mo_otherEnd hR1 hI hi1 ?_
          simp only [c_Mo_layRounds, op_aload, op_ci, op_dup2, op_geti, op_getr, op_goto, op_iadd, op_iald, op_iast, op_icge, op_icle, op_iclt, op_icne, op_ifeq, op_iflt, op_iinc, op_iload, op_invV, op_istore, op_isub, op_puti, op_ret, mc_Mo_byNow, ms_Mo_byNow, mc_Mo_mayCross, ms_Mo_mayCross, mc_Mo_otherEnd, ms_Mo_otherEnd, wpB, wpJ, List.getD_cons_zero, List.getD_cons_succ, lg, lst, lu, spl, catS, catV, c1, List.mem_cons, List.not_mem_nil, or_false, false_or, or_true, true_or, ite_true, ite_false, if_true, if_false, reduceIte, Nat.zero_le, true_and, and_true, Nat.sub_zero, Nat.sub_self, List.nil_append, List.cons_append, List.append_nil, Option.toList_some, Option.toList_none, List.length_cons, List.length_nil, Nat.reduceAdd, Nat.reduceLeDiff, Nat.reduceEqDiff, reduceCtorEq, false_implies, implies_true, not_false_eq_true, not_true_eq_false, List.replicate_succ, List.replicate_zero, Int.reduceLT, Int.reduceLE, Int.reduceEq, Int.reduceNe, Int.reduceToNat, Int.reduceNeg, Int.reduceAdd, Int.reduceSub, Int.reduceMul, Option.some.injEq, Sum.inl.injEq, Sum.inr.injEq, ne_eq, not_true, not_false_iff, Int.toNat_natCast, forall_const, and_false, false_and, and_self, eq_self, lc_lt, lc_gt, lc_le, lc_eq, Nat.reduceSub, nc_2, nc_5, nc_6, nc_8, nc_9, nc_10, nc_22, nc_30, nc_41, nc_44, nc_59, nc_176, nc_200, nc_1000, nc_2886, nn0, gi_si, gr_si, gl_si, cn_si, gi_sr, gr_sr, gl_sr, cn_sr, gi_sl, gr_sl, gl_sl, cn_sl, SM_0, SM_1, SM_2, SM_3, SM_4, SM_5, SM_6, SM_7, SM_8, SM_9, SM_10, SM_11, SM_12, SM_13, SM_14, SM_15, SM_16, SM_17, SM_18, SM_19, SM_20, gm_0 hg1, gm_2 hg1, gm_18 hg1, gm_19 hg1, gm_20 hg1, gm_21 hg1, d6, z13, z14, eo]
          refine s_Mo_byNow hR1 hI hi1 hs ?_
          have w4 : wr ((d : Int) + 1) = ((d + 1 : Nat) : Int) := by rw [wr_id (by omega) (by omega)]; omega
          have d7 : ((d + 1 : Nat) : Int) < 6 := by omega
          simp only [c_Mo_layRounds, op_aload, op_ci, op_dup2, op_geti, op_getr, op_goto, op_iadd, op_iald, op_iast, op_icge, op_icle, op_iclt, op_icne, op_ifeq, op_iflt, op_iinc, op_iload, op_invV, op_istore, op_isub, op_puti, op_ret, mc_Mo_byNow, ms_Mo_byNow, mc_Mo_mayCross, ms_Mo_mayCross, mc_Mo_otherEnd, ms_Mo_otherEnd, wpB, wpJ, List.getD_cons_zero, List.getD_cons_succ, lg, lst, lu, spl, catS, catV, c1, List.mem_cons, List.not_mem_nil, or_false, false_or, or_true, true_or, ite_true, ite_false, if_true, if_false, reduceIte, Nat.zero_le, true_and, and_true, Nat.sub_zero, Nat.sub_self, List.nil_append, List.cons_append, List.append_nil, Option.toList_some, Option.toList_none, List.length_cons, List.length_nil, Nat.reduceAdd, Nat.reduceLeDiff, Nat.reduceEqDiff, reduceCtorEq, false_implies, implies_true, not_false_eq_true, not_true_eq_false, List.replicate_succ, List.replicate_zero, Int.reduceLT, Int.reduceLE, Int.reduceEq, Int.reduceNe, Int.reduceToNat, Int.reduceNeg, Int.reduceAdd, Int.reduceSub, Int.reduceMul, Option.some.injEq, Sum.inl.injEq, Sum.inr.injEq, ne_eq, not_true, not_false_iff, Int.toNat_natCast, forall_const, and_false, false_and, and_self, eq_self, lc_lt, lc_gt, lc_le, lc_eq, Nat.reduceSub, nc_2, nc_5, nc_6, nc_8, nc_9, nc_10, nc_22, nc_30, nc_41, nc_44, nc_59, nc_176, nc_200, nc_1000, nc_2886, nn0, gi_si, gr_si, gl_si, cn_si, gi_sr, gr_sr, gl_sr, cn_sr, gi_sl, gr_sl, gl_sl, cn_sl, SM_0, SM_1, SM_2, SM_3, SM_4, SM_5, SM_6, SM_7, SM_8, SM_9, SM_10, SM_11, SM_12, SM_13, SM_14, SM_15, SM_16, SM_17, SM_18, SM_19, SM_20, gm_0 hg1, gm_2 hg1, gm_18 hg1, gm_19 hg1, gm_20 hg1, gm_21 hg1, d6, z13, z14, w2, w4, d7, hR1.2.2]
          have r12 : ∀ j, j < d + 1 → gi (si h 12 d i) 12 j = ((nt (pre ++ [i]) j : Nat) : Int) := fun j hj => by
            by_cases g : j = d
            · rw [g, f12, ← hl, nt_at]
            · rw [fpre j (by omega), nt_lt (by omega)]
          refine ⟨fun q => ?_, fun q => ?_⟩
          · have hm0 : m = 0 := by omega
            subst hm0
            have ed : dfs k w n 0 (oth k i p) (crs (k (5 + i)) s (fig k w i p)) (pre ++ [i]) (lp (chF k w n 0 p s pre) i st0) = if oth k i p = w 0 ∧ (lp (chF k w n 0 p s pre) i st0).1 < crs (k (5 + i)) s (fig k w i p) then (crs (k (5 + i)) s (fig k w i p), n, pre ++ [i]) else lp (chF k w n 0 p s pre) i st0 := rfl
            rw [ed] at nxt
            have e23 : gi h 1 23 = (lp (chF k w n 0 p s pre) i st0).1 := hrr.2.1
            refine ⟨fun z => ?_, fun z => ⟨fun z2 => ?_, fun z2 => ?_⟩⟩
            · rw [if_neg (fun y => z y.1)] at nxt
              exact nxt _ _ _ _ _ hK1 f12 keep1 z13 z14 frr
            · rw [if_neg (fun y => by omega)] at nxt
              exact nxt _ _ _ _ _ hK1 f12 keep1 z13 z14 frr
            · rw [if_pos ⟨by omega, by omega⟩] at nxt
              have sub : ∀ a, a ≠ 1 → ∀ j, gi (si (si (si h 12 d i) 1 23 (crs (k (5 + i)) s (fig k w i p))) 1 22 n) a j = gi (si h 12 d i) a j := fun a ha j => by rw [gi_si, if_neg (fun y => ha y.1), gi_si, if_neg (fun y => ha y.1)]
              refine copy n 0 _ _ _ _ _ (pre ++ [i]) (by omega) ((hK1.si (Or.inr ⟨rfl, by omega, by omega, by omega, by omega⟩)).si (Or.inr ⟨rfl, by omega, by omega, by omega, by omega⟩)) (fun j hj => by rw [sub 12 (by omega)]; exact r12 j (by omega)) (fun j hj => by omega) (fun h2 x6 hK2 k2 k3 => ?_)
              refine nxt h2 _ _ _ _ hK2 ?_ (fun j hj => ?_) ?_ ?_ ⟨?_, ?_, fun j hj => ?_⟩
              · rw [k2 12 (by omega), sub 12 (by omega)]; exact f12
              · rw [k2 12 (by omega), k2 13 (by omega), k2 14 (by omega), sub 12 (by omega), sub 13 (by omega), sub 14 (by omega)]; exact keep1 j hj
              · rw [k2 13 (by omega), sub 13 (by omega)]; exact z13
              · rw [k2 14 (by omega), sub 14 (by omega)]; exact z14
              · rw [k2 1 (by omega), gi_si, if_pos ⟨rfl, rfl⟩]
              · rw [k2 1 (by omega), gi_si, if_neg (by omega), gi_si, if_pos ⟨rfl, rfl⟩]
              · have hlen : (pre ++ [i]).length = n := by rw [List.length_append, hl]; show d + 1 = n; omega
                exact k3 j (by rw [← hlen]; exact hj)
          · obtain ⟨m', rfl⟩ : ∃ m', m = m' + 1 := ⟨m - 1, by omega⟩
            have sub : ∀ a j, ¬ (j = d + 1 ∧ (a = 12 ∨ a = 13 ∨ a = 14)) → gi (si (si (si (si h 12 d i) 12 (d + 1) (-1)) 13 (d + 1) (oth k i p)) 14 (d + 1) (crs (k (5 + i)) s (fig k w i p))) a j = gi (si h 12 d i) a j := fun a j hj => by rw [gi_si, if_neg (by omega), gi_si, if_neg (by omega), gi_si, if_neg (by omega)]
            refine ihm m' (by omega) (d + 1) (oth k i p) (crs (k (5 + i)) s (fig k w i p)) (pre ++ [i]) (lp (chF k w n (m' + 1) p s pre) i st0) (by omega) (by rw [List.length_append, hl]; rfl) ho ⟨crs_ge _ _ _, crs_le _ _ _⟩ (k 1).toNat 0 _ _ _ _ _ (by omega) (((hK1.si (Or.inl ⟨by omega, by omega, by omega⟩)).si (Or.inl ⟨by omega, by omega, by omega⟩)).si (Or.inl ⟨by omega, by omega, by omega⟩)) ?_ (fun j hj => ?_) ?_ ?_ ((((frr.si ⟨by omega, by omega⟩).si ⟨by omega, by omega⟩).si ⟨by omega, by omega⟩)) (fun h3 y3 y4 y5 y6 hK3 g3 r3 => ?_)
            · rw [gi_si, if_neg (by omega), gi_si, if_neg (by omega), gi_si, if_pos ⟨rfl, rfl⟩]; rfl
            · rw [sub 12 j (by omega)]; exact r12 j hj
            · rw [gi_si, if_neg (by omega), gi_si, if_pos ⟨rfl, rfl⟩]
            · rw [gi_si, if_pos ⟨rfl, rfl⟩]
            · rw [show (((d + 1 : Nat) : Int) - 1) = (d : Int) by omega]
              have gg := g3 d (by omega)
              refine nxt h3 _ _ _ _ hK3 ?_ (fun j hj => ?_) ?_ ?_ r3
              · rw [gg.1, sub 12 d (by omega)]; exact f12
              · have a := g3 j (by omega)
                rw [a.1, a.2.1, a.2.2, sub 12 j (by omega), sub 13 j (by omega), sub 14 j (by omega)]; exact keep1 j hj
              · rw [gg.2.1, sub 13 d (by omega)]; exact z13
              · rw [gg.2.2, sub 14 d (by omega)]; exact z14
        · have hb : ¬ mayb k w i p = true := fun z => hm (mayb_iff.mp z)
          have elp : lp (chF k w n m p s pre) (i + 1) st0 = lp (chF k w n m p s pre) i st0 := by
            have e : ∀ x, chF k w n m p s pre i x = x := fun x => by unfold chF; rw [if_neg hb]
            exact e _
          rw [elp] at nxt
          simp only [c_Mo_layRounds, op_aload, op_ci, op_dup2, op_geti, op_getr, op_goto, op_iadd, op_iald, op_iast, op_icge, op_icle, op_iclt, op_icne, op_ifeq, op_iflt, op_iinc, op_iload, op_invV, op_istore, op_isub, op_puti, op_ret, mc_Mo_byNow, ms_Mo_byNow, mc_Mo_mayCross, ms_Mo_mayCross, mc_Mo_otherEnd, ms_Mo_otherEnd, wpB, wpJ, List.getD_cons_zero, List.getD_cons_succ, lg, lst, lu, spl, catS, catV, c1, List.mem_cons, List.not_mem_nil, or_false, false_or, or_true, true_or, ite_true, ite_false, if_true, if_false, reduceIte, Nat.zero_le, true_and, and_true, Nat.sub_zero, Nat.sub_self, List.nil_append, List.cons_append, List.append_nil, Option.toList_some, Option.toList_none, List.length_cons, List.length_nil, Nat.reduceAdd, Nat.reduceLeDiff, Nat.reduceEqDiff, reduceCtorEq, false_implies, implies_true, not_false_eq_true, not_true_eq_false, List.replicate_succ, List.replicate_zero, Int.reduceLT, Int.reduceLE, Int.reduceEq, Int.reduceNe, Int.reduceToNat, Int.reduceNeg, Int.reduceAdd, Int.reduceSub, Int.reduceMul, Option.some.injEq, Sum.inl.injEq, Sum.inr.injEq, ne_eq, not_true, not_false_iff, Int.toNat_natCast, forall_const, and_false, false_and, and_self, eq_self, lc_lt, lc_gt, lc_le, lc_eq, Nat.reduceSub, nc_2, nc_5, nc_6, nc_8, nc_9, nc_10, nc_22, nc_30, nc_41, nc_44, nc_59, nc_176, nc_200, nc_1000, nc_2886, nn0, gi_si, gr_si, gl_si, cn_si, gi_sr, gr_sr, gl_sr, cn_sr, gi_sl, gr_sl, gl_sl, cn_sl, SM_0, SM_1, SM_2, SM_3, SM_4, SM_5, SM_6, SM_7, SM_8, SM_9, SM_10, SM_11, SM_12, SM_13, SM_14, SM_15, SM_16, SM_17, SM_18, SM_19, SM_20]
          exact nxt _ _ _ _ _ hK1 f12 keep1 (by rw [f13]; exact h13) (by rw [f14]; exact h14) frr
  have hg := hRm.1
  refine AM_of0 rfl rfl (by decide) (Nat.le_of_ble_eq_true rfl) ?_
  refine ok_Mo_layRounds.go [1, 4] 5 0 ?_; simp only [c_Mo_layRounds, op_aload, op_ci, op_dup2, op_geti, op_getr, op_goto, op_iadd, op_iald, op_iast, op_icge, op_icle, op_iclt, op_icne, op_ifeq, op_iflt, op_iinc, op_iload, op_invV, op_istore, op_isub, op_puti, op_ret, mc_Mo_byNow, ms_Mo_byNow, mc_Mo_mayCross, ms_Mo_mayCross, mc_Mo_otherEnd, ms_Mo_otherEnd, wpB, wpJ, List.getD_cons_zero, List.getD_cons_succ, lg, lst, lu, spl, catS, catV, c1, List.mem_cons, List.not_mem_nil, or_false, false_or, or_true, true_or, ite_true, ite_false, if_true, if_false, reduceIte, Nat.zero_le, true_and, and_true, Nat.sub_zero, Nat.sub_self, List.nil_append, List.cons_append, List.append_nil, Option.toList_some, Option.toList_none, List.length_cons, List.length_nil, Nat.reduceAdd, Nat.reduceLeDiff, Nat.reduceEqDiff, reduceCtorEq, false_implies, implies_true, not_false_eq_true, not_true_eq_false, List.replicate_succ, List.replicate_zero, Int.reduceLT, Int.reduceLE, Int.reduceEq, Int.reduceNe, Int.reduceToNat, Int.reduceNeg, Int.reduceAdd, Int.reduceSub, Int.reduceMul, Option.some.injEq, Sum.inl.injEq, Sum.inr.injEq, ne_eq, not_true, not_false_iff, Int.toNat_natCast, forall_const, and_false, false_and, and_self, eq_self, lc_lt, lc_gt, lc_le, lc_eq, Nat.reduceSub, nc_2, nc_5, nc_6, nc_8, nc_9, nc_10, nc_22, nc_30, nc_41, nc_44, nc_59, nc_176, nc_200, nc_1000, nc_2886, nn0, gi_si, gr_si, gl_si, cn_si, gi_sr, gr_sr, gl_sr, cn_sr, gi_sl, gr_sl, gl_sl, cn_sl, SM_0, SM_1, SM_2, SM_3, SM_4, SM_5, SM_6, SM_7, SM_8, SM_9, SM_10, SM_11, SM_12, SM_13, SM_14, SM_15, SM_16, SM_17, SM_18, SM_19, SM_20, entL, show m_Mo_layRounds.2.2.1 = 7 from rfl, gm_0 hg, gm_2 hg, gm_18 hg, gm_19 hg, gm_20 hg, gm_21 hg, hRm.2.2]
  have hK0 : KM hM (si (si (si hM 12 0 (-1)) 13 0 (w 0)) 14 0 (w 1)) := ((KM.rfl'.si (Or.inl ⟨by omega, by omega, by omega⟩)).si (Or.inl ⟨by omega, by omega, by omega⟩)).si (Or.inl ⟨by omega, by omega, by omega⟩)
  have hR0 : RR (si (si (si hM 12 0 (-1)) 13 0 (w 0)) 14 0 (w 1)) st := ((hst.si ⟨by omega, by omega⟩).si ⟨by omega, by omega⟩).si ⟨by omega, by omega⟩
  refine node (n - 1) 0 (w 0) (w 1) [] st (by omega) rfl hw0 hw1 (k 1).toNat 0 _ _ _ _ _ (by omega) hK0 ?_ (fun j hj => by omega) ?_ ?_ hR0 (fun h' x3 x4 x5 x6 hK' _ hr' => ?_)
  · rw [gi_si, if_neg (by omega), gi_si, if_neg (by omega), gi_si, if_pos ⟨rfl, rfl⟩]; rfl
  · rw [gi_si, if_neg (by omega), gi_si, if_pos ⟨rfl, rfl⟩]
  · rw [gi_si, if_pos ⟨rfl, rfl⟩]
  · rw [show n - 1 + 1 = n by omega] at hr'
    have zz : (((0 : Nat) : Int) - 1) = -1 := rfl
    refine ok_Mo_layRounds.go [1, 4] 5 1 ?_; simp only [c_Mo_layRounds, op_aload, op_ci, op_dup2, op_geti, op_getr, op_goto, op_iadd, op_iald, op_iast, op_icge, op_icle, op_iclt, op_icne, op_ifeq, op_iflt, op_iinc, op_iload, op_invV, op_istore, op_isub, op_puti, op_ret, mc_Mo_byNow, ms_Mo_byNow, mc_Mo_mayCross, ms_Mo_mayCross, mc_Mo_otherEnd, ms_Mo_otherEnd, wpB, wpJ, List.getD_cons_zero, List.getD_cons_succ, lg, lst, lu, spl, catS, catV, c1, List.mem_cons, List.not_mem_nil, or_false, false_or, or_true, true_or, ite_true, ite_false, if_true, if_false, reduceIte, Nat.zero_le, true_and, and_true, Nat.sub_zero, Nat.sub_self, List.nil_append, List.cons_append, List.append_nil, Option.toList_some, Option.toList_none, List.length_cons, List.length_nil, Nat.reduceAdd, Nat.reduceLeDiff, Nat.reduceEqDiff, reduceCtorEq, false_implies, implies_true, not_false_eq_true, not_true_eq_false, List.replicate_succ, List.replicate_zero, Int.reduceLT, Int.reduceLE, Int.reduceEq, Int.reduceNe, Int.reduceToNat, Int.reduceNeg, Int.reduceAdd, Int.reduceSub, Int.reduceMul, Option.some.injEq, Sum.inl.injEq, Sum.inr.injEq, ne_eq, not_true, not_false_iff, Int.toNat_natCast, forall_const, and_false, false_and, and_self, eq_self, lc_lt, lc_gt, lc_le, lc_eq, Nat.reduceSub, nc_2, nc_5, nc_6, nc_8, nc_9, nc_10, nc_22, nc_30, nc_41, nc_44, nc_59, nc_176, nc_200, nc_1000, nc_2886, nn0, gi_si, gr_si, gl_si, cn_si, gi_sr, gr_sr, gl_sr, cn_sr, gi_sl, gr_sl, gl_sl, cn_sl, SM_0, SM_1, SM_2, SM_3, SM_4, SM_5, SM_6, SM_7, SM_8, SM_9, SM_10, SM_11, SM_12, SM_13, SM_14, SM_15, SM_16, SM_17, SM_18, SM_19, SM_20, entL, show m_Mo_layRounds.2.2.1 = 7 from rfl, zz]
    exact hq h' hK' hr'
