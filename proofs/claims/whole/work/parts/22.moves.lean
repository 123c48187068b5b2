/-! CROSS, MEND, SHUT, UNDO, KEEP, BACK -/
set_option maxRecDepth 100000 in
theorem s_Mo_remember {h : AH} {k w : Nat → Int} {pa : Nat → Int} {un : Int} {Q : Option AV → AH → Prop} (hR : RM h k w) (hun : gi h 1 4 = un) (hpa : ∀ j, gi h 5 j = pa j) (hu : 0 ≤ un ∧ un ≤ 8)
    (hq : ∀ h', cn h' = cn h → gr h' = gr h → (∀ a j, a ≠ 5 → (a ≠ 1 ∨ j ≠ 4) → gi h' a j = gi h a j) → (∀ j, gi h' 5 j = pshP pa un w j) → gi h' 1 4 = pshN un → Q none h') : AM SM m_Mo_remember [.inr (.inr 1)] h Q := by
  have tail : ∀ (u : Nat) (p2 : Nat → Int) (h' : AH) (x : Option AV), u < 8 → cn h' = cn h → gr h' = gr h → (∀ a j, a ≠ 5 → (a ≠ 1 ∨ j ≠ 4) → gi h' a j = gi h a j) → gi h' 1 4 = u → (∀ j, gi h' 5 j = p2 j) → (∀ j, put p2 u w j = pshP pa un w j) → pshN un = ((u + 1 : Nat) : Int) → AW SM m_Mo_remember 0 0 (t_Mo_remember 3) [some (.inr (.inr 1)), x] [] h' Q := by
    intro u p2 h' x hu8 hc hr hi h4 h5 hp hN
    have hg : GM h' := ⟨hc.trans hR.1.1, fun q hq => by rw [hr]; exact hR.1.2 q hq⟩
    have w1 : wr (22 * (u : Int)) = ((22 * u : Nat) : Int) := by rw [wr_id (by omega) (by omega)]; omega
    refine ok_Mo_remember.go [1] 5 3 ?_; simp only [c_Mo_remember, op_aload, op_ci, op_dup, op_geti, op_getr, op_goto, op_iadd, op_iald, op_iast, op_icge, op_icne, op_iinc, op_iload, op_imul, op_invS, op_istore, op_isub, op_puti, op_ret, mc_Mo_copies, ms_Mo_copies, wpB, wpJ, List.getD_cons_zero, List.getD_cons_succ, lg, lst, lu, spl, catS, catV, c1, List.mem_cons, List.not_mem_nil, or_false, false_or, or_true, true_or, ite_true, ite_false, if_true, if_false, reduceIte, Nat.zero_le, true_and, and_true, Nat.sub_zero, Nat.sub_self, List.nil_append, List.cons_append, List.append_nil, Option.toList_some, Option.toList_none, List.length_cons, List.length_nil, Nat.reduceAdd, Nat.reduceLeDiff, Nat.reduceEqDiff, reduceCtorEq, false_implies, implies_true, not_false_eq_true, not_true_eq_false, List.replicate_succ, List.replicate_zero, Int.reduceLT, Int.reduceLE, Int.reduceEq, Int.reduceNe, Int.reduceToNat, Int.reduceNeg, Int.reduceAdd, Int.reduceSub, Int.reduceMul, Option.some.injEq, Sum.inl.injEq, Sum.inr.injEq, ne_eq, not_true, not_false_iff, Int.toNat_natCast, forall_const, and_false, false_and, and_self, eq_self, lc_lt, lc_gt, lc_le, lc_eq, Nat.reduceSub, nc_2, nc_5, nc_6, nc_8, nc_9, nc_10, nc_22, nc_30, nc_41, nc_44, nc_59, nc_176, nc_200, nc_1000, nc_2886, nn0, gi_si, gr_si, gl_si, cn_si, gi_sr, gr_sr, gl_sr, cn_sr, gi_sl, gr_sl, gl_sl, cn_sl, SM_0, SM_1, SM_2, SM_3, SM_4, SM_5, SM_6, SM_7, SM_8, SM_9, SM_10, SM_11, SM_12, SM_13, SM_14, SM_15, SM_16, SM_17, SM_18, SM_19, SM_20, entL, show m_Mo_remember.2.2.1 = 2 from rfl, gm_2 hg, gm_3 hg, h4, w1]
    refine s_Mo_copies (i := 0) (j := 22 * u) (na := 22) (nb := 176) rfl rfl (by omega) (by omega) (by omega) (by omega) (fun h2 hs2 hx => ?_)
    have e4 : gi h2 1 4 = u := by rw [(hs2.2.2 1 (by omega)).1]; exact h4
    have w2 : wr ((u : Int) + 1) = ((u + 1 : Nat) : Int) := by rw [wr_id (by omega) (by omega)]; omega
    simp only [c_Mo_remember, op_aload, op_ci, op_dup, op_geti, op_getr, op_goto, op_iadd, op_iald, op_iast, op_icge, op_icne, op_iinc, op_iload, op_imul, op_invS, op_istore, op_isub, op_puti, op_ret, mc_Mo_copies, ms_Mo_copies, wpB, wpJ, List.getD_cons_zero, List.getD_cons_succ, lg, lst, lu, spl, catS, catV, c1, List.mem_cons, List.not_mem_nil, or_false, false_or, or_true, true_or, ite_true, ite_false, if_true, if_false, reduceIte, Nat.zero_le, true_and, and_true, Nat.sub_zero, Nat.sub_self, List.nil_append, List.cons_append, List.append_nil, Option.toList_some, Option.toList_none, List.length_cons, List.length_nil, Nat.reduceAdd, Nat.reduceLeDiff, Nat.reduceEqDiff, reduceCtorEq, false_implies, implies_true, not_false_eq_true, not_true_eq_false, List.replicate_succ, List.replicate_zero, Int.reduceLT, Int.reduceLE, Int.reduceEq, Int.reduceNe, Int.reduceToNat, Int.reduceNeg, Int.reduceAdd, Int.reduceSub, Int.reduceMul, Option.some.injEq, Sum.inl.injEq, Sum.inr.injEq, ne_eq, not_true, not_false_iff, Int.toNat_natCast, forall_const, and_false, false_and, and_self, eq_self, lc_lt, lc_gt, lc_le, lc_eq, Nat.reduceSub, nc_2, nc_5, nc_6, nc_8, nc_9, nc_10, nc_22, nc_30, nc_41, nc_44, nc_59, nc_176, nc_200, nc_1000, nc_2886, nn0, gi_si, gr_si, gl_si, cn_si, gi_sr, gr_sr, gl_sr, cn_sr, gi_sl, gr_sl, gl_sl, cn_sl, SM_0, SM_1, SM_2, SM_3, SM_4, SM_5, SM_6, SM_7, SM_8, SM_9, SM_10, SM_11, SM_12, SM_13, SM_14, SM_15, SM_16, SM_17, SM_18, SM_19, SM_20, e4, w2]
    refine hq _ (hs2.1.trans hc) (hs2.2.1.trans hr) (fun a j h1 h2' => ?_) (fun j => ?_) ?_
    · rw [gi_si, if_neg (by omega), (hs2.2.2 a h1).1]; exact hi a j h1 h2'
    · rw [gi_si, if_neg (by omega), hx j, ← hp j]
      unfold put
      by_cases g : 22 * u ≤ j ∧ j < 22 * u + 22
      · rw [if_pos g, if_pos g, hi 4 _ (by omega) (by omega), hR.2.2, Nat.zero_add]
      · rw [if_neg g, if_neg g, h5]
    · rw [gi_si, if_pos ⟨rfl, rfl⟩, hN]
  have hg := hR.1
  by_cases h8 : un = 8
  · have loop : ∀ (m n : Nat) (h' : AH), 154 = n + m → Sm (fun x => x = 5) h h' → (∀ j, gi h' 5 j = if j < n then pa (j + 22) else pa j) → AW SM m_Mo_remember 0 0 (t_Mo_remember 1) [some (.inr (.inr 1)), some (.inl n)] [] h' Q := by
      intro m
      induction m with
      | zero =>
        intro n h' hn hs hx
        have hg := hg.sm hs
        have e4 : gi h' 1 4 = 8 := by rw [(hs.2.2 1 (by omega)).1, hun, h8]
        have w7 : wr (8 - 1) = 7 := wr_id (by omega) (by omega)
        have w7' : wr 7 = 7 := wr_id (by omega) (by omega)
        refine ok_Mo_remember.go [1, 3] 5 1 ?_; simp only [c_Mo_remember, op_aload, op_ci, op_dup, op_geti, op_getr, op_goto, op_iadd, op_iald, op_iast, op_icge, op_icne, op_iinc, op_iload, op_imul, op_invS, op_istore, op_isub, op_puti, op_ret, mc_Mo_copies, ms_Mo_copies, wpB, wpJ, List.getD_cons_zero, List.getD_cons_succ, lg, lst, lu, spl, catS, catV, c1, List.mem_cons, List.not_mem_nil, or_false, false_or, or_true, true_or, ite_true, ite_false, if_true, if_false, reduceIte, Nat.zero_le, true_and, and_true, Nat.sub_zero, Nat.sub_self, List.nil_append, List.cons_append, List.append_nil, Option.toList_some, Option.toList_none, List.length_cons, List.length_nil, Nat.reduceAdd, Nat.reduceLeDiff, Nat.reduceEqDiff, reduceCtorEq, false_implies, implies_true, not_false_eq_true, not_true_eq_false, List.replicate_succ, List.replicate_zero, Int.reduceLT, Int.reduceLE, Int.reduceEq, Int.reduceNe, Int.reduceToNat, Int.reduceNeg, Int.reduceAdd, Int.reduceSub, Int.reduceMul, Option.some.injEq, Sum.inl.injEq, Sum.inr.injEq, ne_eq, not_true, not_false_iff, Int.toNat_natCast, forall_const, and_false, false_and, and_self, eq_self, lc_lt, lc_gt, lc_le, lc_eq, Nat.reduceSub, nc_2, nc_5, nc_6, nc_8, nc_9, nc_10, nc_22, nc_30, nc_41, nc_44, nc_59, nc_176, nc_200, nc_1000, nc_2886, nn0, gi_si, gr_si, gl_si, cn_si, gi_sr, gr_sr, gl_sr, cn_sr, gi_sl, gr_sl, gl_sl, cn_sl, SM_0, SM_1, SM_2, SM_3, SM_4, SM_5, SM_6, SM_7, SM_8, SM_9, SM_10, SM_11, SM_12, SM_13, SM_14, SM_15, SM_16, SM_17, SM_18, SM_19, SM_20, entL, show m_Mo_remember.2.2.1 = 2 from rfl, gm_2 hg, gm_3 hg, e4, w7, w7']
        refine ⟨fun _ => ?_, fun q => by omega⟩
        refine tail 7 (shf pa) _ _ (by omega) hs.1 hs.2.1 (fun a j h1 h2 => ?_) ?_ (fun j => ?_) (fun j => ?_) ?_
        · rw [gi_si, if_neg (by omega)]; exact (hs.2.2 a h1).1 j
        · rw [gi_si, if_pos ⟨rfl, rfl⟩]; rfl
        · rw [gi_si, if_neg (by omega), hx j]; unfold shf; rw [show n = 154 by omega]
        · unfold pshP; rw [if_pos h8]
        · unfold pshN; rw [if_pos h8]; rfl
      | succ m ih =>
        intro n h' hn hs hx
        have hg := hg.sm hs
        have w1 : wr ((n : Int) + 22) = ((n + 22 : Nat) : Int) := by rw [wr_id (by omega) (by omega)]; omega
        have w2 : wr ((n : Int) + 1) = ((n + 1 : Nat) : Int) := by rw [wr_id (by omega) (by omega)]; omega
        have b1 : ((n + 22 : Nat) : Int) < 176 := by omega
        have b2 : (n : Int) < 176 := by omega
        refine ok_Mo_remember.go [1, 3] 5 1 ?_; simp only [c_Mo_remember, op_aload, op_ci, op_dup, op_geti, op_getr, op_goto, op_iadd, op_iald, op_iast, op_icge, op_icne, op_iinc, op_iload, op_imul, op_invS, op_istore, op_isub, op_puti, op_ret, mc_Mo_copies, ms_Mo_copies, wpB, wpJ, List.getD_cons_zero, List.getD_cons_succ, lg, lst, lu, spl, catS, catV, c1, List.mem_cons, List.not_mem_nil, or_false, false_or, or_true, true_or, ite_true, ite_false, if_true, if_false, reduceIte, Nat.zero_le, true_and, and_true, Nat.sub_zero, Nat.sub_self, List.nil_append, List.cons_append, List.append_nil, Option.toList_some, Option.toList_none, List.length_cons, List.length_nil, Nat.reduceAdd, Nat.reduceLeDiff, Nat.reduceEqDiff, reduceCtorEq, false_implies, implies_true, not_false_eq_true, not_true_eq_false, List.replicate_succ, List.replicate_zero, Int.reduceLT, Int.reduceLE, Int.reduceEq, Int.reduceNe, Int.reduceToNat, Int.reduceNeg, Int.reduceAdd, Int.reduceSub, Int.reduceMul, Option.some.injEq, Sum.inl.injEq, Sum.inr.injEq, ne_eq, not_true, not_false_iff, Int.toNat_natCast, forall_const, and_false, false_and, and_self, eq_self, lc_lt, lc_gt, lc_le, lc_eq, Nat.reduceSub, nc_2, nc_5, nc_6, nc_8, nc_9, nc_10, nc_22, nc_30, nc_41, nc_44, nc_59, nc_176, nc_200, nc_1000, nc_2886, nn0, gi_si, gr_si, gl_si, cn_si, gi_sr, gr_sr, gl_sr, cn_sr, gi_sl, gr_sl, gl_sl, cn_sl, SM_0, SM_1, SM_2, SM_3, SM_4, SM_5, SM_6, SM_7, SM_8, SM_9, SM_10, SM_11, SM_12, SM_13, SM_14, SM_15, SM_16, SM_17, SM_18, SM_19, SM_20, entL, show m_Mo_remember.2.2.1 = 2 from rfl, gm_2 hg, gm_3 hg, w1, w2, b1, b2]
        refine ⟨fun q => by omega, fun _ => ?_⟩
        refine ih (n + 1) _ (by omega) (hs.si rfl) (fun j => ?_)
        rw [gi_si, hx j, hx (n + 22), if_neg (show ¬ n + 22 < n by omega)]
        by_cases g : j = n
        · subst g; rw [if_pos ⟨rfl, rfl⟩, if_pos (by omega)]
        · rw [if_neg (fun z => g z.2)]
          by_cases g2 : j < n
          · rw [if_pos g2, if_pos (by omega)]
          · rw [if_neg g2, if_neg (by omega)]
    refine AM_of0 rfl rfl (by decide) (Nat.le_of_ble_eq_true rfl) ?_
    refine ok_Mo_remember.go [1, 3] 5 0 ?_; simp only [c_Mo_remember, op_aload, op_ci, op_dup, op_geti, op_getr, op_goto, op_iadd, op_iald, op_iast, op_icge, op_icne, op_iinc, op_iload, op_imul, op_invS, op_istore, op_isub, op_puti, op_ret, mc_Mo_copies, ms_Mo_copies, wpB, wpJ, List.getD_cons_zero, List.getD_cons_succ, lg, lst, lu, spl, catS, catV, c1, List.mem_cons, List.not_mem_nil, or_false, false_or, or_true, true_or, ite_true, ite_false, if_true, if_false, reduceIte, Nat.zero_le, true_and, and_true, Nat.sub_zero, Nat.sub_self, List.nil_append, List.cons_append, List.append_nil, Option.toList_some, Option.toList_none, List.length_cons, List.length_nil, Nat.reduceAdd, Nat.reduceLeDiff, Nat.reduceEqDiff, reduceCtorEq, false_implies, implies_true, not_false_eq_true, not_true_eq_false, List.replicate_succ, List.replicate_zero, Int.reduceLT, Int.reduceLE, Int.reduceEq, Int.reduceNe, Int.reduceToNat, Int.reduceNeg, Int.reduceAdd, Int.reduceSub, Int.reduceMul, Option.some.injEq, Sum.inl.injEq, Sum.inr.injEq, ne_eq, not_true, not_false_iff, Int.toNat_natCast, forall_const, and_false, false_and, and_self, eq_self, lc_lt, lc_gt, lc_le, lc_eq, Nat.reduceSub, nc_2, nc_5, nc_6, nc_8, nc_9, nc_10, nc_22, nc_30, nc_41, nc_44, nc_59, nc_176, nc_200, nc_1000, nc_2886, nn0, gi_si, gr_si, gl_si, cn_si, gi_sr, gr_sr, gl_sr, cn_sr, gi_sl, gr_sl, gl_sl, cn_sl, SM_0, SM_1, SM_2, SM_3, SM_4, SM_5, SM_6, SM_7, SM_8, SM_9, SM_10, SM_11, SM_12, SM_13, SM_14, SM_15, SM_16, SM_17, SM_18, SM_19, SM_20, entL, show m_Mo_remember.2.2.1 = 2 from rfl, gm_2 hg, gm_3 hg, hun, h8]
    exact loop 154 0 h (by omega) Sm.rfl' (fun j => by rw [if_neg (by omega)]; exact hpa j)
  · obtain ⟨u, rfl⟩ := Int.eq_ofNat_of_zero_le hu.1
    refine AM_of0 rfl rfl (by decide) (Nat.le_of_ble_eq_true rfl) ?_
    refine ok_Mo_remember.go [1, 3] 5 0 ?_; simp only [c_Mo_remember, op_aload, op_ci, op_dup, op_geti, op_getr, op_goto, op_iadd, op_iald, op_iast, op_icge, op_icne, op_iinc, op_iload, op_imul, op_invS, op_istore, op_isub, op_puti, op_ret, mc_Mo_copies, ms_Mo_copies, wpB, wpJ, List.getD_cons_zero, List.getD_cons_succ, lg, lst, lu, spl, catS, catV, c1, List.mem_cons, List.not_mem_nil, or_false, false_or, or_true, true_or, ite_true, ite_false, if_true, if_false, reduceIte, Nat.zero_le, true_and, and_true, Nat.sub_zero, Nat.sub_self, List.nil_append, List.cons_append, List.append_nil, Option.toList_some, Option.toList_none, List.length_cons, List.length_nil, Nat.reduceAdd, Nat.reduceLeDiff, Nat.reduceEqDiff, reduceCtorEq, false_implies, implies_true, not_false_eq_true, not_true_eq_false, List.replicate_succ, List.replicate_zero, Int.reduceLT, Int.reduceLE, Int.reduceEq, Int.reduceNe, Int.reduceToNat, Int.reduceNeg, Int.reduceAdd, Int.reduceSub, Int.reduceMul, Option.some.injEq, Sum.inl.injEq, Sum.inr.injEq, ne_eq, not_true, not_false_iff, Int.toNat_natCast, forall_const, and_false, false_and, and_self, eq_self, lc_lt, lc_gt, lc_le, lc_eq, Nat.reduceSub, nc_2, nc_5, nc_6, nc_8, nc_9, nc_10, nc_22, nc_30, nc_41, nc_44, nc_59, nc_176, nc_200, nc_1000, nc_2886, nn0, gi_si, gr_si, gl_si, cn_si, gi_sr, gr_sr, gl_sr, cn_sr, gi_sl, gr_sl, gl_sl, cn_sl, SM_0, SM_1, SM_2, SM_3, SM_4, SM_5, SM_6, SM_7, SM_8, SM_9, SM_10, SM_11, SM_12, SM_13, SM_14, SM_15, SM_16, SM_17, SM_18, SM_19, SM_20, entL, show m_Mo_remember.2.2.1 = 2 from rfl, gm_2 hg, gm_3 hg, hun, h8]
    refine tail u pa h _ (by omega) rfl rfl (fun _ _ _ _ => rfl) hun hpa (fun j => ?_) ?_
    · unfold pshP; rw [if_neg h8]; rfl
    · unfold pshN; rw [if_neg h8]; omega
/-! the component's pieces under what changes -/
theorem LeC.ext {h h' : AH} {tx : Nat → Int} {tl : Int} (hL : LeC h tx tl) (e : ∀ a, a = 2 ∨ a = 3 → ∀ j, gi h' a j = gi h a j) : LeC h' tx tl :=
  ⟨(e 2 (by omega) 1).trans hL.1, fun i hi => (e 3 (by omega) i).trans (hL.2 i hi)⟩
theorem ToC.ext {h h' : AH} {td : Nat → Int} {tn : Int} (hL : ToC h td tn) (e0 : gi h' 69 6 = gi h 69 6) (e : ∀ a, 70 ≤ a ∧ a ≤ 74 → ∀ j, gi h' a j = gi h a j) : ToC h' td tn := by
  refine ⟨e0.trans hL.1, fun i hi => ?_⟩
  rw [e 70 (by omega), e 71 (by omega), e 72 (by omega), e 73 (by omega), e 74 (by omega)]
  exact hL.2 i hi
theorem RepC.push {h h' : AH} {k w tx td pa pa' ke : Nat → Int} {tl tn un un' kn : Int} (hkn : kn ≤ 2) (hR : RepC h (k, w, tx, tl, td, tn, pa, un, ke, kn)) (hs : SmU h h') (hp : PiC h' 22 23 24 8 pa' un' (k 1)) : RepC h' (k, w, tx, tl, td, tn, pa', un', ke, kn) := by
  obtain ⟨h1, h2, h3, h4, h5, h6, h7⟩ := hR
  have e : ∀ a, ¬ (a = 22 ∨ (24 ≤ a ∧ a < 48)) → ∀ j, gi h' a j = gi h a j := fun a ha j => (hs.2.2 a (fun z => ha (by unfold pilO at z; omega))).1 j
  refine ⟨h1.gx (h1.1.smu hs) (fun a g1 g2 j => e a (by omega) j), h2.ext (fun a g => e a (by omega)), h3.ext (e 69 (by omega) 6) (fun a g => e a (by omega)), hp, h5.ext hkn (e 48 (by omega) 1) (fun j => hs.2.1 49 j (by omega)) (fun a g1 g2 j => e a (by omega) j), ?_, ?_⟩
  · unfold ClC at h6 ⊢; rw [hs.2.1 57 2 (by omega), hs.2.1 57 3 (by omega)]; exact h6
  · unfold RiC at h7 ⊢; rw [hs.2.1 64 1 (by omega), hs.2.1 64 2 (by omega), hs.2.1 64 3 (by omega), hs.2.1 64 4 (by omega)]; exact h7
def nowO (a : Nat) : Prop := 15 ≤ a ∧ a ≤ 17
theorem RepC.now {h h' : AH} {k w w' tx td pa ke : Nat → Int} {tl tn un kn : Int} (hun : un ≤ 8) (hkn : kn ≤ 2) (hR : RepC h (k, w, tx, tl, td, tn, pa, un, ke, kn)) (hs : Sm nowO h h') (hw : SdC h' 15 w' (k 1)) : RepC h' (k, w', tx, tl, td, tn, pa, un, ke, kn) := by
  obtain ⟨h1, h2, h3, h4, h5, h6, h7⟩ := hR
  have e : ∀ a, ¬ (15 ≤ a ∧ a ≤ 17) → ∀ j, gi h' a j = gi h a j := fun a ha j => (hs.2.2 a ha).1 j
  refine ⟨h1.now (h1.1.sm hs) (fun a g => e a (by omega)) hw, h2.ext (fun a g => e a (by omega)), h3.ext (e 69 (by omega) 6) (fun a g => e a (by omega)), h4.ext hun (e 22 (by omega) 1) (fun j => by rw [hs.2.1]) (fun a g1 g2 j => e a (by omega) j), h5.ext hkn (e 48 (by omega) 1) (fun j => by rw [hs.2.1]) (fun a g1 g2 j => e a (by omega) j), ?_, ?_⟩
  · unfold ClC at h6 ⊢; rw [hs.2.1]; exact h6
  · unfold RiC at h7 ⊢; rw [hs.2.1]; exact h7
theorem InvS.push {k w tx td pa ke : Nat → Int} {tl tn un kn : Int} (hI : InvS (k, w, tx, tl, td, tn, pa, un, ke, kn)) {w' : Nat → Int} (hw' : Inv k w') : InvS (k, w', tx, tl, td, tn, pshP pa un w, pshN un, ke, kn) := by
  obtain ⟨i1, i2, i3, ⟨i4, i4'⟩, i5⟩ := hI
  have hx : ∀ (v v' : Nat → Int), (∀ j, j < 22 → v' j = v j) → Inv k v → Inv k v' := by
    intro v v' e hv
    obtain ⟨a1, a2, a3, a4, a5, a6, a7, a8⟩ := hv
    refine ⟨a1, a2, a3, fun r hr => ?_, a5, by rw [e 0 (by omega)]; exact a6, by rw [e 1 (by omega)]; exact a7, by unfold shp at a8 ⊢; rw [e 3 (by omega)]; exact a8⟩
    rw [e (4 + r) (by omega), e (13 + r) (by omega)]
    exact a4 r hr
  refine ⟨hw', i2, i3, ⟨by unfold pshN; split <;> omega, fun i hi => ?_⟩, i5⟩
  unfold pshN at hi
  unfold pshP
  by_cases h8 : un = 8
  · rw [if_pos h8] at hi ⊢
    by_cases h7 : i = 7
    · subst h7
      exact hx w _ (fun j hj => put_at hj) i1
    · refine hx (fun j => pa (22 * (i + 1) + j)) _ (fun j hj => ?_) (i4' (i + 1) (by omega))
      rw [put_ne hj h7]
      unfold shf
      rw [if_pos (by omega)]
      congr 1
      omega
  · rw [if_neg h8] at hi ⊢
    by_cases h7 : i = un.toNat
    · subst h7
      exact hx w _ (fun j hj => put_at hj) i1
    · exact hx (fun j => pa (22 * i + j)) _ (fun j hj => put_ne hj h7) (i4' i (by omega))
