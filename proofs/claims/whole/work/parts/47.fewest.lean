/-! FEWEST: the model -/
theorem and_wo {k w : Nat → Int} (hI : Inv k w) {s x : Nat} (hs : s < 2 ^ (k 1).toNat) (hs5 : s < 512) (hx : w 3 = (x : Int)) : (s &&& x = 0) ↔ wo s (opn k w) = 0 := by
  have hb : ∀ i, (opn k w).testBit i = (decide (i < (k 1).toNat) && !x.testBit i) := fun i => by rw [opn_bit hI, hx]; rfl
  have hsi : ∀ i, s.testBit i = true → i < (k 1).toNat := fun i h => by
    refine Classical.byContradiction (fun z => ?_)
    have h3 : 2 ^ (k 1).toNat ≤ 2 ^ i := Nat.pow_le_pow_right (by decide) (by omega)
    rw [Nat.testBit_lt_two_pow (by omega)] at h
    exact absurd h (by decide)
  rw [wo_zero hs5 (opn_512 hI)]
  constructor
  · intro h i hi hb2
    have e : (s &&& x).testBit i = false := by rw [h]; exact Nat.zero_testBit i
    rw [Nat.testBit_and, hb2] at e
    rw [hb, decide_eq_true (hsi i hb2)]
    cases hz : x.testBit i
    · rfl
    · rw [hz] at e; exact absurd e (by decide)
  · intro h
    refine Nat.eq_of_testBit_eq (fun i => ?_)
    rw [Nat.testBit_and, Nat.zero_testBit]
    cases hz : s.testBit i
    · rfl
    · have h2 := hsi i hz
      have h3 := hI.2.1
      have e := h i (by omega) hz
      rw [hb, decide_eq_true h2] at e
      cases hy : x.testBit i
      · rfl
      · rw [hy] at e; exact absurd e (by decide)
set_option maxRecDepth 100000 in
theorem s_Mo_fewest {hM : AH} {k w : Nat → Int} {Q : Option AV → AH → Prop} (hRm : RM hM k w) (hI : Inv k w) (hq : ∀ h', Sm P16 hM h' → Q (some (.inl (fcN k w (opn k w + 1) : Nat))) h') : AM SM m_Mo_fewest [.inr (.inr 1)] hM Q := by
  obtain ⟨x, hx, hx5, hxk⟩ := hI.w3
  have hk := hI.2.1
  have h3 : 2 ^ (k 1).toNat ≤ 2 ^ 9 := Nat.pow_le_pow_right (by decide) (by omega)
  have hsh := (b_all (k 1).toNat (by omega)).1
  rw [show (((k 1).toNat : Nat) : Int) = k 1 by omega] at hsh
  have ho := opn_lt hI
  have hRs : ∀ h', Sm P16 hM h' → RM h' k w := fun h' hs => hRm.sm hs (fun a ha => by unfold P16 at ha; omega)
  have loop : ∀ (m s : Nat) (h' : AH), 2 ^ (k 1).toNat = s + m → Sm P16 hM h' → AW SM m_Mo_fewest 0 0 (t_Mo_fewest 1) [some (.inr (.inr 1)), some (.inl (fmN k w s).1), some (.inl (fmN k w s).2), some (.inl s)] [] h' Q := by
    intro m
    induction m with
    | zero =>
      intro s h' hs hS
      have hR' := hRs h' hS
      have hg := hR'.1
      have e : (fmN k w s).2 = fcN k w (opn k w + 1) := by
        rw [← few_all hI, ← few_far hI (s - (opn k w + 1)) (by omega), show opn k w + 1 + (s - (opn k w + 1)) = s by omega]
      rw [e]
      refine ok_Mo_fewest.go [1] 5 1 ?_; simp only [c_Mo_fewest, op_aload, op_ci, op_getr, op_goto, op_iald, op_iand, op_icge, op_ifeq, op_ifne, op_iinc, op_iload, op_invS, op_invV, op_ior, op_iret, op_ishl, op_istore, mc_Mo_bits, ms_Mo_bits, mc_Mo_layHeights, ms_Mo_layHeights, wpB, wpJ, List.getD_cons_zero, List.getD_cons_succ, lg, lst, lu, spl, catS, catV, c1, List.mem_cons, List.not_mem_nil, or_false, false_or, or_true, true_or, ite_true, ite_false, if_true, if_false, reduceIte, Nat.zero_le, true_and, and_true, Nat.sub_zero, Nat.sub_self, List.nil_append, List.cons_append, List.append_nil, Option.toList_some, Option.toList_none, List.length_cons, List.length_nil, Nat.reduceAdd, Nat.reduceLeDiff, Nat.reduceEqDiff, reduceCtorEq, false_implies, implies_true, not_false_eq_true, not_true_eq_false, List.replicate_succ, List.replicate_zero, Int.reduceLT, Int.reduceLE, Int.reduceEq, Int.reduceNe, Int.reduceToNat, Int.reduceNeg, Int.reduceAdd, Int.reduceSub, Int.reduceMul, Option.some.injEq, Sum.inl.injEq, Sum.inr.injEq, ne_eq, not_true, not_false_iff, Int.toNat_natCast, forall_const, and_false, false_and, and_self, eq_self, lc_lt, lc_gt, lc_le, lc_eq, Nat.reduceSub, nc_2, nc_5, nc_6, nc_8, nc_9, nc_10, nc_22, nc_30, nc_41, nc_44, nc_59, nc_176, nc_200, nc_1000, nc_2886, nn0, gi_si, gr_si, gl_si, cn_si, gi_sr, gr_sr, gl_sr, cn_sr, gi_sl, gr_sl, gl_sl, cn_sl, SM_0, SM_1, SM_2, SM_3, SM_4, SM_5, SM_6, SM_7, SM_8, SM_9, SM_10, SM_11, SM_12, SM_13, SM_14, SM_15, SM_16, SM_17, SM_18, SM_19, SM_20, entL, show m_Mo_fewest.2.2.1 = 4 from rfl, gm_0 hg, gm_2 hg, hR'.2.1, hsh]
      exact ⟨fun _ => hq h' hS, fun q => by omega⟩
    | succ m ih =>
      intro s h' hs hS
      have hR' := hRs h' hS
      have hg := hR'.1
      have s5 : s < 512 := by omega
      have hnd : iand (s : Int) (x : Int) = ((s &&& x : Nat) : Int) := nat_iand (by omega) (by omega) (by omega) (by omega)
      have hor : ior (x : Int) (s : Int) = ((x ||| s : Nat) : Int) := nat_ior (by omega) (by omega) (by omega) (by omega)
      have hor5 : x ||| s < 512 := Nat.or_lt_two_pow (n := 9) hx5 s5
      have w1 : wr ((s : Int) + 1) = ((s + 1 : Nat) : Int) := by rw [wr_id (by omega) (by omega)]; omega
      have haw := and_wo hI (by omega) s5 hx
      have ih1 := fun h' => ih (s + 1) h' (by omega)
      have ef : fmN k w (s + 1) = if cand k w s = true ∧ (pcn s : Int) < (fmN k w s).1 then ((pcn s : Int), s) else fmN k w s := rfl
      rw [ef] at ih1
      refine ok_Mo_fewest.go [1] 5 1 ?_; simp only [c_Mo_fewest, op_aload, op_ci, op_getr, op_goto, op_iald, op_iand, op_icge, op_ifeq, op_ifne, op_iinc, op_iload, op_invS, op_invV, op_ior, op_iret, op_ishl, op_istore, mc_Mo_bits, ms_Mo_bits, mc_Mo_layHeights, ms_Mo_layHeights, wpB, wpJ, List.getD_cons_zero, List.getD_cons_succ, lg, lst, lu, spl, catS, catV, c1, List.mem_cons, List.not_mem_nil, or_false, false_or, or_true, true_or, ite_true, ite_false, if_true, if_false, reduceIte, Nat.zero_le, true_and, and_true, Nat.sub_zero, Nat.sub_self, List.nil_append, List.cons_append, List.append_nil, Option.toList_some, Option.toList_none, List.length_cons, List.length_nil, Nat.reduceAdd, Nat.reduceLeDiff, Nat.reduceEqDiff, reduceCtorEq, false_implies, implies_true, not_false_eq_true, not_true_eq_false, List.replicate_succ, List.replicate_zero, Int.reduceLT, Int.reduceLE, Int.reduceEq, Int.reduceNe, Int.reduceToNat, Int.reduceNeg, Int.reduceAdd, Int.reduceSub, Int.reduceMul, Option.some.injEq, Sum.inl.injEq, Sum.inr.injEq, ne_eq, not_true, not_false_iff, Int.toNat_natCast, forall_const, and_false, false_and, and_self, eq_self, lc_lt, lc_gt, lc_le, lc_eq, Nat.reduceSub, nc_2, nc_5, nc_6, nc_8, nc_9, nc_10, nc_22, nc_30, nc_41, nc_44, nc_59, nc_176, nc_200, nc_1000, nc_2886, nn0, gi_si, gr_si, gl_si, cn_si, gi_sr, gr_sr, gl_sr, cn_sr, gi_sl, gr_sl, gl_sl, cn_sl, SM_0, SM_1, SM_2, SM_3, SM_4, SM_5, SM_6, SM_7, SM_8, SM_9, SM_10, SM_11, SM_12, SM_13, SM_14, SM_15, SM_16, SM_17, SM_18, SM_19, SM_20, entL, show m_Mo_fewest.2.2.1 = 4 from rfl, gm_0 hg, gm_2 hg, hR'.2.1, hsh, hR'.2.2, hx, hnd, hor, w1]
      refine ⟨fun q => by omega, fun _ => ⟨fun z => ?_, fun z => ?_⟩⟩
      · have hc : ¬ cand k w s = true := fun y => by
          unfold cand at y
          rw [decide_eq_false (fun u => z (by have := haw.mpr u; omega))] at y
          exact absurd y (by simp)
        rw [if_neg (fun y => hc y.1)] at ih1
        exact ih1 h' hS
      · refine s_Mo_bits s5 ?_
        simp only [c_Mo_fewest, op_aload, op_ci, op_getr, op_goto, op_iald, op_iand, op_icge, op_ifeq, op_ifne, op_iinc, op_iload, op_invS, op_invV, op_ior, op_iret, op_ishl, op_istore, mc_Mo_bits, ms_Mo_bits, mc_Mo_layHeights, ms_Mo_layHeights, wpB, wpJ, List.getD_cons_zero, List.getD_cons_succ, lg, lst, lu, spl, catS, catV, c1, List.mem_cons, List.not_mem_nil, or_false, false_or, or_true, true_or, ite_true, ite_false, if_true, if_false, reduceIte, Nat.zero_le, true_and, and_true, Nat.sub_zero, Nat.sub_self, List.nil_append, List.cons_append, List.append_nil, Option.toList_some, Option.toList_none, List.length_cons, List.length_nil, Nat.reduceAdd, Nat.reduceLeDiff, Nat.reduceEqDiff, reduceCtorEq, false_implies, implies_true, not_false_eq_true, not_true_eq_false, List.replicate_succ, List.replicate_zero, Int.reduceLT, Int.reduceLE, Int.reduceEq, Int.reduceNe, Int.reduceToNat, Int.reduceNeg, Int.reduceAdd, Int.reduceSub, Int.reduceMul, Option.some.injEq, Sum.inl.injEq, Sum.inr.injEq, ne_eq, not_true, not_false_iff, Int.toNat_natCast, forall_const, and_false, false_and, and_self, eq_self, lc_lt, lc_gt, lc_le, lc_eq, Nat.reduceSub, nc_2, nc_5, nc_6, nc_8, nc_9, nc_10, nc_22, nc_30, nc_41, nc_44, nc_59, nc_176, nc_200, nc_1000, nc_2886, nn0, gi_si, gr_si, gl_si, cn_si, gi_sr, gr_sr, gl_sr, cn_sr, gi_sl, gr_sl, gl_sl, cn_sl, SM_0, SM_1, SM_2, SM_3, SM_4, SM_5, SM_6, SM_7, SM_8, SM_9, SM_10, SM_11, SM_12, SM_13, SM_14, SM_15, SM_16, SM_17, SM_18, SM_19, SM_20, gm_0 hg, gm_2 hg, hR'.2.2, hx, hor, w1]
        refine ⟨fun z2 => ?_, fun z2 => ?_⟩
        · rw [if_neg (fun y => by omega)] at ih1
          exact ih1 h' hS
        · have hw0 : wo s (opn k w) = 0 := haw.mp (by omega)
          have hbits : ∀ r : Nat, (r : Int) < k 1 → (fun r => (opn k w).testBit r && !s.testBit r) r = !(x ||| s).testBit r := fun r hr => by
            show ((opn k w).testBit r && !s.testBit r) = _
            rw [opn_bit hI, hx, Nat.testBit_or, decide_eq_true (by omega)]
            show (true && !x.testBit r && !s.testBit r) = _
            cases x.testBit r <;> cases s.testBit r <;> rfl
          refine s_Mo_layHeights hR' hI hor5 hbits (fun y h2 hs2 _ => ?_) (fun y h2 hs2 => ?_)
          · have hc : cand k w s = true := by unfold cand; rw [decide_eq_true hw0, y]; rfl
            rw [if_pos ⟨hc, by omega⟩] at ih1
            simp only [c_Mo_fewest, op_aload, op_ci, op_getr, op_goto, op_iald, op_iand, op_icge, op_ifeq, op_ifne, op_iinc, op_iload, op_invS, op_invV, op_ior, op_iret, op_ishl, op_istore, mc_Mo_bits, ms_Mo_bits, mc_Mo_layHeights, ms_Mo_layHeights, wpB, wpJ, List.getD_cons_zero, List.getD_cons_succ, lg, lst, lu, spl, catS, catV, c1, List.mem_cons, List.not_mem_nil, or_false, false_or, or_true, true_or, ite_true, ite_false, if_true, if_false, reduceIte, Nat.zero_le, true_and, and_true, Nat.sub_zero, Nat.sub_self, List.nil_append, List.cons_append, List.append_nil, Option.toList_some, Option.toList_none, List.length_cons, List.length_nil, Nat.reduceAdd, Nat.reduceLeDiff, Nat.reduceEqDiff, reduceCtorEq, false_implies, implies_true, not_false_eq_true, not_true_eq_false, List.replicate_succ, List.replicate_zero, Int.reduceLT, Int.reduceLE, Int.reduceEq, Int.reduceNe, Int.reduceToNat, Int.reduceNeg, Int.reduceAdd, Int.reduceSub, Int.reduceMul, Option.some.injEq, Sum.inl.injEq, Sum.inr.injEq, ne_eq, not_true, not_false_iff, Int.toNat_natCast, forall_const, and_false, false_and, and_self, eq_self, lc_lt, lc_gt, lc_le, lc_eq, Nat.reduceSub, nc_2, nc_5, nc_6, nc_8, nc_9, nc_10, nc_22, nc_30, nc_41, nc_44, nc_59, nc_176, nc_200, nc_1000, nc_2886, nn0, gi_si, gr_si, gl_si, cn_si, gi_sr, gr_sr, gl_sr, cn_sr, gi_sl, gr_sl, gl_sl, cn_sl, SM_0, SM_1, SM_2, SM_3, SM_4, SM_5, SM_6, SM_7, SM_8, SM_9, SM_10, SM_11, SM_12, SM_13, SM_14, SM_15, SM_16, SM_17, SM_18, SM_19, SM_20]
            refine s_Mo_bits s5 ?_
            simp only [c_Mo_fewest, op_aload, op_ci, op_getr, op_goto, op_iald, op_iand, op_icge, op_ifeq, op_ifne, op_iinc, op_iload, op_invS, op_invV, op_ior, op_iret, op_ishl, op_istore, mc_Mo_bits, ms_Mo_bits, mc_Mo_layHeights, ms_Mo_layHeights, wpB, wpJ, List.getD_cons_zero, List.getD_cons_succ, lg, lst, lu, spl, catS, catV, c1, List.mem_cons, List.not_mem_nil, or_false, false_or, or_true, true_or, ite_true, ite_false, if_true, if_false, reduceIte, Nat.zero_le, true_and, and_true, Nat.sub_zero, Nat.sub_self, List.nil_append, List.cons_append, List.append_nil, Option.toList_some, Option.toList_none, List.length_cons, List.length_nil, Nat.reduceAdd, Nat.reduceLeDiff, Nat.reduceEqDiff, reduceCtorEq, false_implies, implies_true, not_false_eq_true, not_true_eq_false, List.replicate_succ, List.replicate_zero, Int.reduceLT, Int.reduceLE, Int.reduceEq, Int.reduceNe, Int.reduceToNat, Int.reduceNeg, Int.reduceAdd, Int.reduceSub, Int.reduceMul, Option.some.injEq, Sum.inl.injEq, Sum.inr.injEq, ne_eq, not_true, not_false_iff, Int.toNat_natCast, forall_const, and_false, false_and, and_self, eq_self, lc_lt, lc_gt, lc_le, lc_eq, Nat.reduceSub, nc_2, nc_5, nc_6, nc_8, nc_9, nc_10, nc_22, nc_30, nc_41, nc_44, nc_59, nc_176, nc_200, nc_1000, nc_2886, nn0, gi_si, gr_si, gl_si, cn_si, gi_sr, gr_sr, gl_sr, cn_sr, gi_sl, gr_sl, gl_sl, cn_sl, SM_0, SM_1, SM_2, SM_3, SM_4, SM_5, SM_6, SM_7, SM_8, SM_9, SM_10, SM_11, SM_12, SM_13, SM_14, SM_15, SM_16, SM_17, SM_18, SM_19, SM_20, w1]
            exact ih1 h2 (hS.trans hs2)
          · have hc : ¬ cand k w s = true := fun u => by
              unfold cand at u
              rw [y] at u
              exact absurd u (by simp)
            rw [if_neg (fun y => hc y.1)] at ih1
            simp only [c_Mo_fewest, op_aload, op_ci, op_getr, op_goto, op_iald, op_iand, op_icge, op_ifeq, op_ifne, op_iinc, op_iload, op_invS, op_invV, op_ior, op_iret, op_ishl, op_istore, mc_Mo_bits, ms_Mo_bits, mc_Mo_layHeights, ms_Mo_layHeights, wpB, wpJ, List.getD_cons_zero, List.getD_cons_succ, lg, lst, lu, spl, catS, catV, c1, List.mem_cons, List.not_mem_nil, or_false, false_or, or_true, true_or, ite_true, ite_false, if_true, if_false, reduceIte, Nat.zero_le, true_and, and_true, Nat.sub_zero, Nat.sub_self, List.nil_append, List.cons_append, List.append_nil, Option.toList_some, Option.toList_none, List.length_cons, List.length_nil, Nat.reduceAdd, Nat.reduceLeDiff, Nat.reduceEqDiff, reduceCtorEq, false_implies, implies_true, not_false_eq_true, not_true_eq_false, List.replicate_succ, List.replicate_zero, Int.reduceLT, Int.reduceLE, Int.reduceEq, Int.reduceNe, Int.reduceToNat, Int.reduceNeg, Int.reduceAdd, Int.reduceSub, Int.reduceMul, Option.some.injEq, Sum.inl.injEq, Sum.inr.injEq, ne_eq, not_true, not_false_iff, Int.toNat_natCast, forall_const, and_false, false_and, and_self, eq_self, lc_lt, lc_gt, lc_le, lc_eq, Nat.reduceSub, nc_2, nc_5, nc_6, nc_8, nc_9, nc_10, nc_22, nc_30, nc_41, nc_44, nc_59, nc_176, nc_200, nc_1000, nc_2886, nn0, gi_si, gr_si, gl_si, cn_si, gi_sr, gr_sr, gl_sr, cn_sr, gi_sl, gr_sl, gl_sl, cn_sl, SM_0, SM_1, SM_2, SM_3, SM_4, SM_5, SM_6, SM_7, SM_8, SM_9, SM_10, SM_11, SM_12, SM_13, SM_14, SM_15, SM_16, SM_17, SM_18, SM_19, SM_20, w1]
            exact ih1 h2 (hS.trans hs2)
  refine AM_of0 rfl rfl (by decide) (Nat.le_of_ble_eq_true rfl) ?_
  refine ok_Mo_fewest.go [1] 5 0 ?_; simp only [c_Mo_fewest, op_aload, op_ci, op_getr, op_goto, op_iald, op_iand, op_icge, op_ifeq, op_ifne, op_iinc, op_iload, op_invS, op_invV, op_ior, op_iret, op_ishl, op_istore, mc_Mo_bits, ms_Mo_bits, mc_Mo_layHeights, ms_Mo_layHeights, wpB, wpJ, List.getD_cons_zero, List.getD_cons_succ, lg, lst, lu, spl, catS, catV, c1, List.mem_cons, List.not_mem_nil, or_false, false_or, or_true, true_or, ite_true, ite_false, if_true, if_false, reduceIte, Nat.zero_le, true_and, and_true, Nat.sub_zero, Nat.sub_self, List.nil_append, List.cons_append, List.append_nil, Option.toList_some, Option.toList_none, List.length_cons, List.length_nil, Nat.reduceAdd, Nat.reduceLeDiff, Nat.reduceEqDiff, reduceCtorEq, false_implies, implies_true, not_false_eq_true, not_true_eq_false, List.replicate_succ, List.replicate_zero, Int.reduceLT, Int.reduceLE, Int.reduceEq, Int.reduceNe, Int.reduceToNat, Int.reduceNeg, Int.reduceAdd, Int.reduceSub, Int.reduceMul, Option.some.injEq, Sum.inl.injEq, Sum.inr.injEq, ne_eq, not_true, not_false_iff, Int.toNat_natCast, forall_const, and_false, false_and, and_self, eq_self, lc_lt, lc_gt, lc_le, lc_eq, Nat.reduceSub, nc_2, nc_5, nc_6, nc_8, nc_9, nc_10, nc_22, nc_30, nc_41, nc_44, nc_59, nc_176, nc_200, nc_1000, nc_2886, nn0, gi_si, gr_si, gl_si, cn_si, gi_sr, gr_sr, gl_sr, cn_sr, gi_sl, gr_sl, gl_sl, cn_sl, SM_0, SM_1, SM_2, SM_3, SM_4, SM_5, SM_6, SM_7, SM_8, SM_9, SM_10, SM_11, SM_12, SM_13, SM_14, SM_15, SM_16, SM_17, SM_18, SM_19, SM_20, entL, show m_Mo_fewest.2.2.1 = 4 from rfl]
  exact loop (2 ^ (k 1).toNat) 0 hM (by omega) Sm.rfl'
