/-! blocks, cut behind each call -/
def r_Mo_init_0_7 : List Op := op_ret :: []
theorem w_Mo_init_0_7_c {J : Nat → Nat → Nat → LC → List AV → AH → Prop} {Q : Option AV → AH → Prop} {bc bs : Nat} {ls : LC} {x : AV} {st : List AV} {h : AH} : wpB r_Mo_init_0_7 J Q bc bs ls (x :: st) h = wpB (op_ret :: []) J Q bc bs ls (x :: st) h := rfl
theorem w_Mo_init_0_7_n {J : Nat → Nat → Nat → LC → List AV → AH → Prop} {Q : Option AV → AH → Prop} {bc bs : Nat} {ls : LC} {h : AH} : wpB r_Mo_init_0_7 J Q bc bs ls [] h = wpB (op_ret :: []) J Q bc bs ls [] h := rfl
def r_Mo_init_0_6 : List Op := op_aload 0 :: op_getr SM 12 1 :: op_ci (2) :: op_ci (3) :: op_iast SM :: op_aload 0 :: op_getr SM 12 1 :: op_ci (51) :: op_ci (1) :: op_iast SM :: op_aload 0 :: op_getr SM 12 1 :: op_ci (52) :: op_ci (4) :: op_iast SM :: op_aload 0 :: op_invV SM m_Mo_begins 12 0 :: r_Mo_init_0_7
theorem w_Mo_init_0_6_c {J : Nat → Nat → Nat → LC → List AV → AH → Prop} {Q : Option AV → AH → Prop} {bc bs : Nat} {ls : LC} {x : AV} {st : List AV} {h : AH} : wpB r_Mo_init_0_6 J Q bc bs ls (x :: st) h = wpB (op_aload 0 :: op_getr SM 12 1 :: op_ci (2) :: op_ci (3) :: op_iast SM :: op_aload 0 :: op_getr SM 12 1 :: op_ci (51) :: op_ci (1) :: op_iast SM :: op_aload 0 :: op_getr SM 12 1 :: op_ci (52) :: op_ci (4) :: op_iast SM :: op_aload 0 :: op_invV SM m_Mo_begins 12 0 :: r_Mo_init_0_7) J Q bc bs ls (x :: st) h := rfl
theorem w_Mo_init_0_6_n {J : Nat → Nat → Nat → LC → List AV → AH → Prop} {Q : Option AV → AH → Prop} {bc bs : Nat} {ls : LC} {h : AH} : wpB r_Mo_init_0_6 J Q bc bs ls [] h = wpB (op_aload 0 :: op_getr SM 12 1 :: op_ci (2) :: op_ci (3) :: op_iast SM :: op_aload 0 :: op_getr SM 12 1 :: op_ci (51) :: op_ci (1) :: op_iast SM :: op_aload 0 :: op_getr SM 12 1 :: op_ci (52) :: op_ci (4) :: op_iast SM :: op_aload 0 :: op_invV SM m_Mo_begins 12 0 :: r_Mo_init_0_7) J Q bc bs ls [] h := rfl
def r_Mo_init_0_5 : List Op := op_aload 0 :: op_ci (0) :: op_ci (0) :: op_ci (2) :: op_ci (24) :: op_ci (16) :: op_invV SM m_Mo_comes 12 5 :: r_Mo_init_0_6
theorem w_Mo_init_0_5_c {J : Nat → Nat → Nat → LC → List AV → AH → Prop} {Q : Option AV → AH → Prop} {bc bs : Nat} {ls : LC} {x : AV} {st : List AV} {h : AH} : wpB r_Mo_init_0_5 J Q bc bs ls (x :: st) h = wpB (op_aload 0 :: op_ci (0) :: op_ci (0) :: op_ci (2) :: op_ci (24) :: op_ci (16) :: op_invV SM m_Mo_comes 12 5 :: r_Mo_init_0_6) J Q bc bs ls (x :: st) h := rfl
theorem w_Mo_init_0_5_n {J : Nat → Nat → Nat → LC → List AV → AH → Prop} {Q : Option AV → AH → Prop} {bc bs : Nat} {ls : LC} {h : AH} : wpB r_Mo_init_0_5 J Q bc bs ls [] h = wpB (op_aload 0 :: op_ci (0) :: op_ci (0) :: op_ci (2) :: op_ci (24) :: op_ci (16) :: op_invV SM m_Mo_comes 12 5 :: r_Mo_init_0_6) J Q bc bs ls [] h := rfl
def r_Mo_init_0_4 : List Op := op_aload 0 :: op_ci (2) :: op_ci (3) :: op_ci (0) :: op_ci (20) :: op_ci (20) :: op_invV SM m_Mo_comes 12 5 :: r_Mo_init_0_5
theorem w_Mo_init_0_4_c {J : Nat → Nat → Nat → LC → List AV → AH → Prop} {Q : Option AV → AH → Prop} {bc bs : Nat} {ls : LC} {x : AV} {st : List AV} {h : AH} : wpB r_Mo_init_0_4 J Q bc bs ls (x :: st) h = wpB (op_aload 0 :: op_ci (2) :: op_ci (3) :: op_ci (0) :: op_ci (20) :: op_ci (20) :: op_invV SM m_Mo_comes 12 5 :: r_Mo_init_0_5) J Q bc bs ls (x :: st) h := rfl
theorem w_Mo_init_0_4_n {J : Nat → Nat → Nat → LC → List AV → AH → Prop} {Q : Option AV → AH → Prop} {bc bs : Nat} {ls : LC} {h : AH} : wpB r_Mo_init_0_4 J Q bc bs ls [] h = wpB (op_aload 0 :: op_ci (2) :: op_ci (3) :: op_ci (0) :: op_ci (20) :: op_ci (20) :: op_invV SM m_Mo_comes 12 5 :: r_Mo_init_0_5) J Q bc bs ls [] h := rfl
def r_Mo_init_0_3 : List Op := op_aload 0 :: op_ci (1) :: op_ci (2) :: op_ci (3) :: op_ci (25) :: op_ci (15) :: op_invV SM m_Mo_comes 12 5 :: r_Mo_init_0_4
theorem w_Mo_init_0_3_c {J : Nat → Nat → Nat → LC → List AV → AH → Prop} {Q : Option AV → AH → Prop} {bc bs : Nat} {ls : LC} {x : AV} {st : List AV} {h : AH} : wpB r_Mo_init_0_3 J Q bc bs ls (x :: st) h = wpB (op_aload 0 :: op_ci (1) :: op_ci (2) :: op_ci (3) :: op_ci (25) :: op_ci (15) :: op_invV SM m_Mo_comes 12 5 :: r_Mo_init_0_4) J Q bc bs ls (x :: st) h := rfl
theorem w_Mo_init_0_3_n {J : Nat → Nat → Nat → LC → List AV → AH → Prop} {Q : Option AV → AH → Prop} {bc bs : Nat} {ls : LC} {h : AH} : wpB r_Mo_init_0_3 J Q bc bs ls [] h = wpB (op_aload 0 :: op_ci (1) :: op_ci (2) :: op_ci (3) :: op_ci (25) :: op_ci (15) :: op_invV SM m_Mo_comes 12 5 :: r_Mo_init_0_4) J Q bc bs ls [] h := rfl
def r_Mo_init_0_2 : List Op := op_aload 0 :: op_ci (0) :: op_ci (1) :: op_ci (2) :: op_ci (18) :: op_ci (22) :: op_invV SM m_Mo_comes 12 5 :: r_Mo_init_0_3
theorem w_Mo_init_0_2_c {J : Nat → Nat → Nat → LC → List AV → AH → Prop} {Q : Option AV → AH → Prop} {bc bs : Nat} {ls : LC} {x : AV} {st : List AV} {h : AH} : wpB r_Mo_init_0_2 J Q bc bs ls (x :: st) h = wpB (op_aload 0 :: op_ci (0) :: op_ci (1) :: op_ci (2) :: op_ci (18) :: op_ci (22) :: op_invV SM m_Mo_comes 12 5 :: r_Mo_init_0_3) J Q bc bs ls (x :: st) h := rfl
theorem w_Mo_init_0_2_n {J : Nat → Nat → Nat → LC → List AV → AH → Prop} {Q : Option AV → AH → Prop} {bc bs : Nat} {ls : LC} {h : AH} : wpB r_Mo_init_0_2 J Q bc bs ls [] h = wpB (op_aload 0 :: op_ci (0) :: op_ci (1) :: op_ci (2) :: op_ci (18) :: op_ci (22) :: op_invV SM m_Mo_comes 12 5 :: r_Mo_init_0_3) J Q bc bs ls [] h := rfl
def r_Mo_init_0_1 : List Op := op_aload 0 :: op_ci (0) :: op_ci (0) :: op_ci (1) :: op_ci (31) :: op_ci (9) :: op_invV SM m_Mo_comes 12 5 :: r_Mo_init_0_2
theorem w_Mo_init_0_1_c {J : Nat → Nat → Nat → LC → List AV → AH → Prop} {Q : Option AV → AH → Prop} {bc bs : Nat} {ls : LC} {x : AV} {st : List AV} {h : AH} : wpB r_Mo_init_0_1 J Q bc bs ls (x :: st) h = wpB (op_aload 0 :: op_ci (0) :: op_ci (0) :: op_ci (1) :: op_ci (31) :: op_ci (9) :: op_invV SM m_Mo_comes 12 5 :: r_Mo_init_0_2) J Q bc bs ls (x :: st) h := rfl
theorem w_Mo_init_0_1_n {J : Nat → Nat → Nat → LC → List AV → AH → Prop} {Q : Option AV → AH → Prop} {bc bs : Nat} {ls : LC} {h : AH} : wpB r_Mo_init_0_1 J Q bc bs ls [] h = wpB (op_aload 0 :: op_ci (0) :: op_ci (0) :: op_ci (1) :: op_ci (31) :: op_ci (9) :: op_invV SM m_Mo_comes 12 5 :: r_Mo_init_0_2) J Q bc bs ls [] h := rfl
def c2_Mo_init : List (List Op) := [op_aload 0 :: op_oinit :: op_aload 0 :: op_ci (59) :: op_newa SM .int :: op_putr SM 12 0 :: op_aload 0 :: op_ci (59) :: op_newa SM .int :: op_putr SM 12 1 :: op_aload 0 :: op_ci (22) :: op_newa SM .int :: op_putr SM 12 2 :: op_aload 0 :: op_ci (176) :: op_newa SM .int :: op_putr SM 12 3 :: op_aload 0 :: op_ci (44) :: op_newa SM .int :: op_putr SM 12 5 :: op_aload 0 :: op_ci (200) :: op_newa SM .int :: op_putr SM 12 7 :: op_aload 0 :: op_ci (30) :: op_newa SM .int :: op_putr SM 12 9 :: op_aload 0 :: op_ci (5) :: op_newa SM .int :: op_putr SM 12 13 :: op_aload 0 :: op_ci (6) :: op_newa SM .int :: op_putr SM 12 16 :: op_aload 0 :: op_ci (6) :: op_newa SM .int :: op_putr SM 12 17 :: op_aload 0 :: op_ci (6) :: op_newa SM .int :: op_putr SM 12 18 :: op_aload 0 :: op_ci (6) :: op_newa SM .int :: op_putr SM 12 19 :: op_aload 0 :: op_ci (6) :: op_newa SM .int :: op_putr SM 12 20 :: op_aload 0 :: op_ci (6) :: op_newa SM .int :: op_putr SM 12 21 :: op_aload 0 :: op_ci (6) :: op_newa SM .int :: op_putr SM 12 24 :: op_aload 0 :: op_ci (6) :: op_newa SM .int :: op_putr SM 12 25 :: op_aload 0 :: op_ci (2886) :: op_newa SM .boolean :: op_putr SM 12 26 :: op_aload 0 :: op_ci (2886) :: op_newa SM .boolean :: op_putr SM 12 27 :: op_aload 0 :: op_ci (1000) :: op_newa SM .boolean :: op_putr SM 12 28 :: op_aload 0 :: op_invV SM m_Mo_clean 12 0 :: r_Mo_init_0_1]
theorem k2_Mo_init_0 : c2_Mo_init.getD 0 [] = op_aload 0 :: op_oinit :: op_aload 0 :: op_ci (59) :: op_newa SM .int :: op_putr SM 12 0 :: op_aload 0 :: op_ci (59) :: op_newa SM .int :: op_putr SM 12 1 :: op_aload 0 :: op_ci (22) :: op_newa SM .int :: op_putr SM 12 2 :: op_aload 0 :: op_ci (176) :: op_newa SM .int :: op_putr SM 12 3 :: op_aload 0 :: op_ci (44) :: op_newa SM .int :: op_putr SM 12 5 :: op_aload 0 :: op_ci (200) :: op_newa SM .int :: op_putr SM 12 7 :: op_aload 0 :: op_ci (30) :: op_newa SM .int :: op_putr SM 12 9 :: op_aload 0 :: op_ci (5) :: op_newa SM .int :: op_putr SM 12 13 :: op_aload 0 :: op_ci (6) :: op_newa SM .int :: op_putr SM 12 16 :: op_aload 0 :: op_ci (6) :: op_newa SM .int :: op_putr SM 12 17 :: op_aload 0 :: op_ci (6) :: op_newa SM .int :: op_putr SM 12 18 :: op_aload 0 :: op_ci (6) :: op_newa SM .int :: op_putr SM 12 19 :: op_aload 0 :: op_ci (6) :: op_newa SM .int :: op_putr SM 12 20 :: op_aload 0 :: op_ci (6) :: op_newa SM .int :: op_putr SM 12 21 :: op_aload 0 :: op_ci (6) :: op_newa SM .int :: op_putr SM 12 24 :: op_aload 0 :: op_ci (6) :: op_newa SM .int :: op_putr SM 12 25 :: op_aload 0 :: op_ci (2886) :: op_newa SM .boolean :: op_putr SM 12 26 :: op_aload 0 :: op_ci (2886) :: op_newa SM .boolean :: op_putr SM 12 27 :: op_aload 0 :: op_ci (1000) :: op_newa SM .boolean :: op_putr SM 12 28 :: op_aload 0 :: op_invV SM m_Mo_clean 12 0 :: r_Mo_init_0_1 := rfl
theorem ok2_Mo_init : MOK SM m_Mo_init c2_Mo_init t_Mo_init := ok_Mo_init
/-! A NEW OBJECT: the reference -/
set_option maxRecDepth 100000 in
theorem s_Mo_clean {h : AH} {Q : Option AV → AH → Prop} (hg : GM h) (hq : ∀ h2, KF h h2 → (∀ j, j < 59 → gi h2 3 j = K00 j) → Q none h2) : AM SM m_Mo_clean [.inr (.inr 1)] h Q := by
  have clr : ∀ (m i : Nat) (h' : AH), 59 = i + m → KF h h' → (∀ j, j < i → gi h' 3 j = 0) → AW SM m_Mo_clean 0 0 (t_Mo_clean 1) [some (.inr (.inr 1)), some (.inl i)] [] h' Q := by
    intro m
    induction m with
    | zero =>
      intro i h' hi hs hx
      have hg' := hg.kf hs
      have c : (59 : Int) ≤ i := by omega
      have z0 : ((0 : Int)).toNat = 0 := rfl
      have z4 : ((4 : Int)).toNat = 4 := rfl
      refine ok2_Mo_clean.go [1] 5 1 ?_; simp only [op_aload, op_ci, op_getr, op_goto, op_iast, op_icge, op_iinc, op_iload, op_istore, op_putz, op_ret, k2_Mo_clean_0, k2_Mo_clean_1, k2_Mo_clean_2, wpB, wpJ, List.getD_cons_zero, List.getD_cons_succ, lg, lst, lu, spl, catS, catV, c1, List.mem_cons, List.not_mem_nil, or_false, false_or, or_true, true_or, ite_true, ite_false, if_true, if_false, reduceIte, Nat.zero_le, true_and, and_true, Nat.sub_zero, Nat.sub_self, List.nil_append, List.cons_append, List.append_nil, Option.toList_some, Option.toList_none, List.length_cons, List.length_nil, Nat.reduceAdd, Nat.reduceLeDiff, Nat.reduceEqDiff, reduceCtorEq, false_implies, implies_true, not_false_eq_true, not_true_eq_false, List.replicate_succ, List.replicate_zero, Int.reduceLT, Int.reduceLE, Int.reduceEq, Int.reduceNe, Int.reduceToNat, Int.reduceNeg, Int.reduceAdd, Int.reduceSub, Int.reduceMul, Option.some.injEq, Sum.inl.injEq, Sum.inr.injEq, ne_eq, not_true, not_false_iff, Int.toNat_natCast, forall_const, and_false, false_and, and_self, eq_self, lc_lt, lc_gt, lc_le, lc_eq, Nat.reduceSub, nc_2, nc_5, nc_6, nc_8, nc_9, nc_10, nc_22, nc_30, nc_41, nc_44, nc_59, nc_176, nc_200, nc_1000, nc_2886, nn0, gi_si, gr_si, gl_si, cn_si, gi_sr, gr_sr, gl_sr, cn_sr, gi_sl, gr_sl, gl_sl, cn_sl, SM_0, SM_1, SM_2, SM_3, SM_4, SM_5, SM_6, SM_7, SM_8, SM_9, SM_10, SM_11, SM_12, SM_13, SM_14, SM_15, SM_16, SM_17, SM_18, SM_19, SM_20, entL, show m_Mo_clean.2.2.1 = 2 from rfl, gm_1 hg', c, z0, z4]
      refine hq _ (((hs.si (Or.inl rfl)).si (Or.inl rfl)).si (by omega)) (fun j hj => ?_)
      simp only [gi_si, Nat.reduceEqDiff, false_and, if_false, true_and]
      unfold K00
      by_cases g : j = 4
      · rw [if_pos g, if_neg (by omega), if_pos g]
      · rw [if_neg g]
        by_cases g2 : j = 0
        · rw [if_pos g2, if_pos g2]
        · rw [if_neg g2, if_neg g2, if_neg g]; exact hx j (by omega)
    | succ m ih =>
      intro i h' hi hs hx
      have hg' := hg.kf hs
      have c : ¬ (59 : Int) ≤ i := by omega
      have c2 : (i : Int) < 59 := by omega
      have w1 : wr ((i : Int) + 1) = ((i + 1 : Nat) : Int) := by rw [wr_id (by omega) (by omega)]; omega
      refine ok2_Mo_clean.go [1] 5 1 ?_; simp only [op_aload, op_ci, op_getr, op_goto, op_iast, op_icge, op_iinc, op_iload, op_istore, op_putz, op_ret, k2_Mo_clean_0, k2_Mo_clean_1, k2_Mo_clean_2, wpB, wpJ, List.getD_cons_zero, List.getD_cons_succ, lg, lst, lu, spl, catS, catV, c1, List.mem_cons, List.not_mem_nil, or_false, false_or, or_true, true_or, ite_true, ite_false, if_true, if_false, reduceIte, Nat.zero_le, true_and, and_true, Nat.sub_zero, Nat.sub_self, List.nil_append, List.cons_append, List.append_nil, Option.toList_some, Option.toList_none, List.length_cons, List.length_nil, Nat.reduceAdd, Nat.reduceLeDiff, Nat.reduceEqDiff, reduceCtorEq, false_implies, implies_true, not_false_eq_true, not_true_eq_false, List.replicate_succ, List.replicate_zero, Int.reduceLT, Int.reduceLE, Int.reduceEq, Int.reduceNe, Int.reduceToNat, Int.reduceNeg, Int.reduceAdd, Int.reduceSub, Int.reduceMul, Option.some.injEq, Sum.inl.injEq, Sum.inr.injEq, ne_eq, not_true, not_false_iff, Int.toNat_natCast, forall_const, and_false, false_and, and_self, eq_self, lc_lt, lc_gt, lc_le, lc_eq, Nat.reduceSub, nc_2, nc_5, nc_6, nc_8, nc_9, nc_10, nc_22, nc_30, nc_41, nc_44, nc_59, nc_176, nc_200, nc_1000, nc_2886, nn0, gi_si, gr_si, gl_si, cn_si, gi_sr, gr_sr, gl_sr, cn_sr, gi_sl, gr_sl, gl_sl, cn_sl, SM_0, SM_1, SM_2, SM_3, SM_4, SM_5, SM_6, SM_7, SM_8, SM_9, SM_10, SM_11, SM_12, SM_13, SM_14, SM_15, SM_16, SM_17, SM_18, SM_19, SM_20, entL, show m_Mo_clean.2.2.1 = 2 from rfl, gm_1 hg', c, c2, w1]
      refine ih (i + 1) _ (by omega) (hs.si (Or.inl rfl)) (fun j hj => ?_)
      rw [gi_si]
      by_cases g : j = i
      · rw [if_pos ⟨rfl, g⟩]
      · rw [if_neg (fun z => g z.2)]; exact hx j (by omega)
  refine AM_of0 rfl rfl (by decide) (Nat.le_of_ble_eq_true rfl) ?_
  refine ok2_Mo_clean.go [1] 5 0 ?_; simp only [op_aload, op_ci, op_getr, op_goto, op_iast, op_icge, op_iinc, op_iload, op_istore, op_putz, op_ret, k2_Mo_clean_0, k2_Mo_clean_1, k2_Mo_clean_2, wpB, wpJ, List.getD_cons_zero, List.getD_cons_succ, lg, lst, lu, spl, catS, catV, c1, List.mem_cons, List.not_mem_nil, or_false, false_or, or_true, true_or, ite_true, ite_false, if_true, if_false, reduceIte, Nat.zero_le, true_and, and_true, Nat.sub_zero, Nat.sub_self, List.nil_append, List.cons_append, List.append_nil, Option.toList_some, Option.toList_none, List.length_cons, List.length_nil, Nat.reduceAdd, Nat.reduceLeDiff, Nat.reduceEqDiff, reduceCtorEq, false_implies, implies_true, not_false_eq_true, not_true_eq_false, List.replicate_succ, List.replicate_zero, Int.reduceLT, Int.reduceLE, Int.reduceEq, Int.reduceNe, Int.reduceToNat, Int.reduceNeg, Int.reduceAdd, Int.reduceSub, Int.reduceMul, Option.some.injEq, Sum.inl.injEq, Sum.inr.injEq, ne_eq, not_true, not_false_iff, Int.toNat_natCast, forall_const, and_false, false_and, and_self, eq_self, lc_lt, lc_gt, lc_le, lc_eq, Nat.reduceSub, nc_2, nc_5, nc_6, nc_8, nc_9, nc_10, nc_22, nc_30, nc_41, nc_44, nc_59, nc_176, nc_200, nc_1000, nc_2886, nn0, gi_si, gr_si, gl_si, cn_si, gi_sr, gr_sr, gl_sr, cn_sr, gi_sl, gr_sl, gl_sl, cn_sl, SM_0, SM_1, SM_2, SM_3, SM_4, SM_5, SM_6, SM_7, SM_8, SM_9, SM_10, SM_11, SM_12, SM_13, SM_14, SM_15, SM_16, SM_17, SM_18, SM_19, SM_20, entL, show m_Mo_clean.2.2.1 = 2 from rfl]
  exact clr 59 0 h (by omega) KF.rfl' (fun j hj => by omega)
def nmx (a b c d e : Int) : Nat → Int := fun j => if j = 0 then a else if j = 1 then b else if j = 2 then c else if j = 3 then d else e
def kM1 : Nat → Int := addR K00 (nmx 0 0 1 31 9)
def kM2 : Nat → Int := addR kM1 (nmx 0 1 2 18 22)
def kM3 : Nat → Int := addR kM2 (nmx 1 2 3 25 15)
def kM4 : Nat → Int := addR kM3 (nmx 2 3 0 20 20)
def kM5 : Nat → Int := addR kM4 (nmx 0 0 2 24 16)
def kM : Nat → Int := up1 (up1 (up1 kM5 2 3) 51 1) 52 4
theorem kM_F : mix 59 kM zf = mix 59 kpF zf := by
  have h8 : ∀ i : Fin 59, kM (i : Nat) = kpF (i : Nat) := by decide +kernel
  funext j
  unfold mix
  by_cases h : j < 59
  · rw [if_pos h, if_pos h]; exact h8 ⟨j, h⟩
  · rw [if_neg h, if_neg h]
theorem wM_F : mix 22 (W0 kM) zf = mix 22 (W0 kpF) zf := by
  have h8 : ∀ i : Fin 22, W0 kM (i : Nat) = W0 kpF (i : Nat) := by decide +kernel
  funext j
  unfold mix
  by_cases h : j < 22
  · rw [if_pos h, if_pos h]; exact h8 ⟨j, h⟩
  · rw [if_neg h, if_neg h]
theorem kM_le : (kM1 1 = 1 ∧ kM2 1 = 2) ∧ kM3 1 = 3 ∧ kM4 1 = 4 := by decide +kernel
def hm1 : AH := sr (nwo hz1) 1 0 2
def hm2 : AH := sr (nwo hm1) 1 1 3
def hm3 : AH := sr (nwo hm2) 1 2 4
def hm4 : AH := sr (nwo hm3) 1 3 5
def hm5 : AH := sr (nwo hm4) 1 5 6
def hm6 : AH := sr (nwo hm5) 1 7 7
def hm7 : AH := sr (nwo hm6) 1 9 8
def hm8 : AH := sr (nwo hm7) 1 13 9
def hm9 : AH := sr (nwo hm8) 1 16 10
def hm10 : AH := sr (nwo hm9) 1 17 11
def hm11 : AH := sr (nwo hm10) 1 18 12
def hm12 : AH := sr (nwo hm11) 1 19 13
def hm13 : AH := sr (nwo hm12) 1 20 14
def hm14 : AH := sr (nwo hm13) 1 21 15
def hm15 : AH := sr (nwo hm14) 1 24 16
def hm16 : AH := sr (nwo hm15) 1 25 17
def hm17 : AH := sr (nwo hm16) 1 26 18
def hm18 : AH := sr (nwo hm17) 1 27 19
def hm19 : AH := sr (nwo hm18) 1 28 20
theorem f_hm1 : sr (nwo hz1) 1 0 2 = hm1 := rfl
theorem cn_hm1 : cn hm1 = 2 := rfl
theorem f_hm2 : sr (nwo hm1) 1 1 3 = hm2 := rfl
theorem cn_hm2 : cn hm2 = 3 := rfl
theorem f_hm3 : sr (nwo hm2) 1 2 4 = hm3 := rfl
theorem cn_hm3 : cn hm3 = 4 := rfl
theorem f_hm4 : sr (nwo hm3) 1 3 5 = hm4 := rfl
theorem cn_hm4 : cn hm4 = 5 := rfl
theorem f_hm5 : sr (nwo hm4) 1 5 6 = hm5 := rfl
theorem cn_hm5 : cn hm5 = 6 := rfl
theorem f_hm6 : sr (nwo hm5) 1 7 7 = hm6 := rfl
theorem cn_hm6 : cn hm6 = 7 := rfl
theorem f_hm7 : sr (nwo hm6) 1 9 8 = hm7 := rfl
theorem cn_hm7 : cn hm7 = 8 := rfl
theorem f_hm8 : sr (nwo hm7) 1 13 9 = hm8 := rfl
theorem cn_hm8 : cn hm8 = 9 := rfl
theorem f_hm9 : sr (nwo hm8) 1 16 10 = hm9 := rfl
theorem cn_hm9 : cn hm9 = 10 := rfl
theorem f_hm10 : sr (nwo hm9) 1 17 11 = hm10 := rfl
theorem cn_hm10 : cn hm10 = 11 := rfl
theorem f_hm11 : sr (nwo hm10) 1 18 12 = hm11 := rfl
theorem cn_hm11 : cn hm11 = 12 := rfl
theorem f_hm12 : sr (nwo hm11) 1 19 13 = hm12 := rfl
theorem cn_hm12 : cn hm12 = 13 := rfl
theorem f_hm13 : sr (nwo hm12) 1 20 14 = hm13 := rfl
theorem cn_hm13 : cn hm13 = 14 := rfl
theorem f_hm14 : sr (nwo hm13) 1 21 15 = hm14 := rfl
theorem cn_hm14 : cn hm14 = 15 := rfl
theorem f_hm15 : sr (nwo hm14) 1 24 16 = hm15 := rfl
theorem cn_hm15 : cn hm15 = 16 := rfl
theorem f_hm16 : sr (nwo hm15) 1 25 17 = hm16 := rfl
theorem cn_hm16 : cn hm16 = 17 := rfl
theorem f_hm17 : sr (nwo hm16) 1 26 18 = hm17 := rfl
theorem cn_hm17 : cn hm17 = 18 := rfl
theorem f_hm18 : sr (nwo hm17) 1 27 19 = hm18 := rfl
theorem cn_hm18 : cn hm18 = 19 := rfl
theorem f_hm19 : sr (nwo hm18) 1 28 20 = hm19 := rfl
theorem cn_hm19 : cn hm19 = 20 := rfl
theorem cn_hz1 : cn hz1 = 1 := rfl
theorem gm_hm19 : GM hm19 := ⟨rfl, by decide +kernel⟩
theorem zi_hm19 : Zi hm19 := by
  have z0 : Zi hz1 := fun _ _ => ⟨rfl, rfl⟩
  have z1 : Zi hm1 := z0.nw.sr _ _ _
  have z2 : Zi hm2 := z1.nw.sr _ _ _
  have z3 : Zi hm3 := z2.nw.sr _ _ _
  have z4 : Zi hm4 := z3.nw.sr _ _ _
  have z5 : Zi hm5 := z4.nw.sr _ _ _
  have z6 : Zi hm6 := z5.nw.sr _ _ _
  have z7 : Zi hm7 := z6.nw.sr _ _ _
  have z8 : Zi hm8 := z7.nw.sr _ _ _
  have z9 : Zi hm9 := z8.nw.sr _ _ _
  have z10 : Zi hm10 := z9.nw.sr _ _ _
  have z11 : Zi hm11 := z10.nw.sr _ _ _
  have z12 : Zi hm12 := z11.nw.sr _ _ _
  have z13 : Zi hm13 := z12.nw.sr _ _ _
  have z14 : Zi hm14 := z13.nw.sr _ _ _
  have z15 : Zi hm15 := z14.nw.sr _ _ _
  have z16 : Zi hm16 := z15.nw.sr _ _ _
  have z17 : Zi hm17 := z16.nw.sr _ _ _
  have z18 : Zi hm18 := z17.nw.sr _ _ _
  have z19 : Zi hm19 := z18.nw.sr _ _ _
  exact z19
set_option maxRecDepth 100000 in
theorem s_Mo_init {Q : Option AV → AH → Prop} (hq : ∀ h', RepM h' st0 → Q none h') : AM SM m_Mo_init [.inr (.inr 1)] hz1 Q := by
  refine AMi mc_Mo_init ms_Mo_init (by decide) (by decide) ?_
  refine ok2_Mo_init.go [] 3 0 ?_; simp only [op_aload, op_ci, op_getr, op_iast, op_invV, op_newa, op_oinit, op_putr, op_ret, mc_Mo_begins, ms_Mo_begins, mc_Mo_clean, ms_Mo_clean, mc_Mo_comes, ms_Mo_comes, k2_Mo_init_0, w_Mo_init_0_1_c, w_Mo_init_0_1_n, w_Mo_init_0_2_c, w_Mo_init_0_2_n, w_Mo_init_0_3_c, w_Mo_init_0_3_n, w_Mo_init_0_4_c, w_Mo_init_0_4_n, w_Mo_init_0_5_c, w_Mo_init_0_5_n, w_Mo_init_0_6_c, w_Mo_init_0_6_n, w_Mo_init_0_7_c, w_Mo_init_0_7_n, wpB, wpJ, List.getD_cons_zero, List.getD_cons_succ, lg, lst, lu, spl, catS, catV, c1, List.mem_cons, List.not_mem_nil, or_false, false_or, or_true, true_or, ite_true, ite_false, if_true, if_false, reduceIte, Nat.zero_le, true_and, and_true, Nat.sub_zero, Nat.sub_self, List.nil_append, List.cons_append, List.append_nil, Option.toList_some, Option.toList_none, List.length_cons, List.length_nil, Nat.reduceAdd, Nat.reduceLeDiff, Nat.reduceEqDiff, reduceCtorEq, false_implies, implies_true, not_false_eq_true, not_true_eq_false, List.replicate_succ, List.replicate_zero, Int.reduceLT, Int.reduceLE, Int.reduceEq, Int.reduceNe, Int.reduceToNat, Int.reduceNeg, Int.reduceAdd, Int.reduceSub, Int.reduceMul, Option.some.injEq, Sum.inl.injEq, Sum.inr.injEq, ne_eq, not_true, not_false_iff, Int.toNat_natCast, forall_const, and_false, false_and, and_self, eq_self, lc_lt, lc_gt, lc_le, lc_eq, Nat.reduceSub, nc_2, nc_5, nc_6, nc_8, nc_9, nc_10, nc_22, nc_30, nc_41, nc_44, nc_59, nc_176, nc_200, nc_1000, nc_2886, nn0, gi_si, gr_si, gl_si, cn_si, gi_sr, gr_sr, gl_sr, cn_sr, gi_sl, gr_sl, gl_sl, cn_sl, SM_0, SM_1, SM_2, SM_3, SM_4, SM_5, SM_6, SM_7, SM_8, SM_9, SM_10, SM_11, SM_12, SM_13, SM_14, SM_15, SM_16, SM_17, SM_18, SM_19, SM_20, entL, show m_Mo_init.2.2.1 = 1 from rfl, cn_nwo, cn_hz1, f_hm1, f_hm2, f_hm3, f_hm4, f_hm5, f_hm6, f_hm7, f_hm8, f_hm9, f_hm10, f_hm11, f_hm12, f_hm13, f_hm14, f_hm15, f_hm16, f_hm17, f_hm18, f_hm19, cn_hm1, cn_hm2, cn_hm3, cn_hm4, cn_hm5, cn_hm6, cn_hm7, cn_hm8, cn_hm9, cn_hm10, cn_hm11, cn_hm12, cn_hm13, cn_hm14, cn_hm15, cn_hm16, cn_hm17, cn_hm18, cn_hm19]
  refine s_Mo_clean gm_hm19 (fun h0 hs0 hx0 => ?_)
  simp only [op_aload, op_ci, op_getr, op_iast, op_invV, op_newa, op_oinit, op_putr, op_ret, mc_Mo_begins, ms_Mo_begins, mc_Mo_clean, ms_Mo_clean, mc_Mo_comes, ms_Mo_comes, k2_Mo_init_0, w_Mo_init_0_1_c, w_Mo_init_0_1_n, w_Mo_init_0_2_c, w_Mo_init_0_2_n, w_Mo_init_0_3_c, w_Mo_init_0_3_n, w_Mo_init_0_4_c, w_Mo_init_0_4_n, w_Mo_init_0_5_c, w_Mo_init_0_5_n, w_Mo_init_0_6_c, w_Mo_init_0_6_n, w_Mo_init_0_7_c, w_Mo_init_0_7_n, wpB, wpJ, List.getD_cons_zero, List.getD_cons_succ, lg, lst, lu, spl, catS, catV, c1, List.mem_cons, List.not_mem_nil, or_false, false_or, or_true, true_or, ite_true, ite_false, if_true, if_false, reduceIte, Nat.zero_le, true_and, and_true, Nat.sub_zero, Nat.sub_self, List.nil_append, List.cons_append, List.append_nil, Option.toList_some, Option.toList_none, List.length_cons, List.length_nil, Nat.reduceAdd, Nat.reduceLeDiff, Nat.reduceEqDiff, reduceCtorEq, false_implies, implies_true, not_false_eq_true, not_true_eq_false, List.replicate_succ, List.replicate_zero, Int.reduceLT, Int.reduceLE, Int.reduceEq, Int.reduceNe, Int.reduceToNat, Int.reduceNeg, Int.reduceAdd, Int.reduceSub, Int.reduceMul, Option.some.injEq, Sum.inl.injEq, Sum.inr.injEq, ne_eq, not_true, not_false_iff, Int.toNat_natCast, forall_const, and_false, false_and, and_self, eq_self, lc_lt, lc_gt, lc_le, lc_eq, Nat.reduceSub, nc_2, nc_5, nc_6, nc_8, nc_9, nc_10, nc_22, nc_30, nc_41, nc_44, nc_59, nc_176, nc_200, nc_1000, nc_2886, nn0, gi_si, gr_si, gl_si, cn_si, gi_sr, gr_sr, gl_sr, cn_sr, gi_sl, gr_sl, gl_sl, cn_sl, SM_0, SM_1, SM_2, SM_3, SM_4, SM_5, SM_6, SM_7, SM_8, SM_9, SM_10, SM_11, SM_12, SM_13, SM_14, SM_15, SM_16, SM_17, SM_18, SM_19, SM_20]
  refine s_Mo_comes (κ := K00) (nm := nmx 0 0 1 31 9) (gm_hm19.kf hs0) hx0 (by decide) (fun h1 hs1 ho1 hx1 => ?_)
  have hs1 := hs0.trans hs1
  simp only [op_aload, op_ci, op_getr, op_iast, op_invV, op_newa, op_oinit, op_putr, op_ret, mc_Mo_begins, ms_Mo_begins, mc_Mo_clean, ms_Mo_clean, mc_Mo_comes, ms_Mo_comes, k2_Mo_init_0, w_Mo_init_0_1_c, w_Mo_init_0_1_n, w_Mo_init_0_2_c, w_Mo_init_0_2_n, w_Mo_init_0_3_c, w_Mo_init_0_3_n, w_Mo_init_0_4_c, w_Mo_init_0_4_n, w_Mo_init_0_5_c, w_Mo_init_0_5_n, w_Mo_init_0_6_c, w_Mo_init_0_6_n, w_Mo_init_0_7_c, w_Mo_init_0_7_n, wpB, wpJ, List.getD_cons_zero, List.getD_cons_succ, lg, lst, lu, spl, catS, catV, c1, List.mem_cons, List.not_mem_nil, or_false, false_or, or_true, true_or, ite_true, ite_false, if_true, if_false, reduceIte, Nat.zero_le, true_and, and_true, Nat.sub_zero, Nat.sub_self, List.nil_append, List.cons_append, List.append_nil, Option.toList_some, Option.toList_none, List.length_cons, List.length_nil, Nat.reduceAdd, Nat.reduceLeDiff, Nat.reduceEqDiff, reduceCtorEq, false_implies, implies_true, not_false_eq_true, not_true_eq_false, List.replicate_succ, List.replicate_zero, Int.reduceLT, Int.reduceLE, Int.reduceEq, Int.reduceNe, Int.reduceToNat, Int.reduceNeg, Int.reduceAdd, Int.reduceSub, Int.reduceMul, Option.some.injEq, Sum.inl.injEq, Sum.inr.injEq, ne_eq, not_true, not_false_iff, Int.toNat_natCast, forall_const, and_false, false_and, and_self, eq_self, lc_lt, lc_gt, lc_le, lc_eq, Nat.reduceSub, nc_2, nc_5, nc_6, nc_8, nc_9, nc_10, nc_22, nc_30, nc_41, nc_44, nc_59, nc_176, nc_200, nc_1000, nc_2886, nn0, gi_si, gr_si, gl_si, cn_si, gi_sr, gr_sr, gl_sr, cn_sr, gi_sl, gr_sl, gl_sl, cn_sl, SM_0, SM_1, SM_2, SM_3, SM_4, SM_5, SM_6, SM_7, SM_8, SM_9, SM_10, SM_11, SM_12, SM_13, SM_14, SM_15, SM_16, SM_17, SM_18, SM_19, SM_20]
  refine s_Mo_comes (κ := kM1) (nm := nmx 0 1 2 18 22) (gm_hm19.kf hs1) hx1 (by rw [kM_le.1.1]; omega) (fun h2 hs2 ho2 hx2 => ?_)
  have hs2 := hs1.trans hs2
  simp only [op_aload, op_ci, op_getr, op_iast, op_invV, op_newa, op_oinit, op_putr, op_ret, mc_Mo_begins, ms_Mo_begins, mc_Mo_clean, ms_Mo_clean, mc_Mo_comes, ms_Mo_comes, k2_Mo_init_0, w_Mo_init_0_1_c, w_Mo_init_0_1_n, w_Mo_init_0_2_c, w_Mo_init_0_2_n, w_Mo_init_0_3_c, w_Mo_init_0_3_n, w_Mo_init_0_4_c, w_Mo_init_0_4_n, w_Mo_init_0_5_c, w_Mo_init_0_5_n, w_Mo_init_0_6_c, w_Mo_init_0_6_n, w_Mo_init_0_7_c, w_Mo_init_0_7_n, wpB, wpJ, List.getD_cons_zero, List.getD_cons_succ, lg, lst, lu, spl, catS, catV, c1, List.mem_cons, List.not_mem_nil, or_false, false_or, or_true, true_or, ite_true, ite_false, if_true, if_false, reduceIte, Nat.zero_le, true_and, and_true, Nat.sub_zero, Nat.sub_self, List.nil_append, List.cons_append, List.append_nil, Option.toList_some, Option.toList_none, List.length_cons, List.length_nil, Nat.reduceAdd, Nat.reduceLeDiff, Nat.reduceEqDiff, reduceCtorEq, false_implies, implies_true, not_false_eq_true, not_true_eq_false, List.replicate_succ, List.replicate_zero, Int.reduceLT, Int.reduceLE, Int.reduceEq, Int.reduceNe, Int.reduceToNat, Int.reduceNeg, Int.reduceAdd, Int.reduceSub, Int.reduceMul, Option.some.injEq, Sum.inl.injEq, Sum.inr.injEq, ne_eq, not_true, not_false_iff, Int.toNat_natCast, forall_const, and_false, false_and, and_self, eq_self, lc_lt, lc_gt, lc_le, lc_eq, Nat.reduceSub, nc_2, nc_5, nc_6, nc_8, nc_9, nc_10, nc_22, nc_30, nc_41, nc_44, nc_59, nc_176, nc_200, nc_1000, nc_2886, nn0, gi_si, gr_si, gl_si, cn_si, gi_sr, gr_sr, gl_sr, cn_sr, gi_sl, gr_sl, gl_sl, cn_sl, SM_0, SM_1, SM_2, SM_3, SM_4, SM_5, SM_6, SM_7, SM_8, SM_9, SM_10, SM_11, SM_12, SM_13, SM_14, SM_15, SM_16, SM_17, SM_18, SM_19, SM_20]
  refine s_Mo_comes (κ := kM2) (nm := nmx 1 2 3 25 15) (gm_hm19.kf hs2) hx2 (by rw [kM_le.1.2]; omega) (fun h3 hs3 ho3 hx3 => ?_)
  have hs3 := hs2.trans hs3
  simp only [op_aload, op_ci, op_getr, op_iast, op_invV, op_newa, op_oinit, op_putr, op_ret, mc_Mo_begins, ms_Mo_begins, mc_Mo_clean, ms_Mo_clean, mc_Mo_comes, ms_Mo_comes, k2_Mo_init_0, w_Mo_init_0_1_c, w_Mo_init_0_1_n, w_Mo_init_0_2_c, w_Mo_init_0_2_n, w_Mo_init_0_3_c, w_Mo_init_0_3_n, w_Mo_init_0_4_c, w_Mo_init_0_4_n, w_Mo_init_0_5_c, w_Mo_init_0_5_n, w_Mo_init_0_6_c, w_Mo_init_0_6_n, w_Mo_init_0_7_c, w_Mo_init_0_7_n, wpB, wpJ, List.getD_cons_zero, List.getD_cons_succ, lg, lst, lu, spl, catS, catV, c1, List.mem_cons, List.not_mem_nil, or_false, false_or, or_true, true_or, ite_true, ite_false, if_true, if_false, reduceIte, Nat.zero_le, true_and, and_true, Nat.sub_zero, Nat.sub_self, List.nil_append, List.cons_append, List.append_nil, Option.toList_some, Option.toList_none, List.length_cons, List.length_nil, Nat.reduceAdd, Nat.reduceLeDiff, Nat.reduceEqDiff, reduceCtorEq, false_implies, implies_true, not_false_eq_true, not_true_eq_false, List.replicate_succ, List.replicate_zero, Int.reduceLT, Int.reduceLE, Int.reduceEq, Int.reduceNe, Int.reduceToNat, Int.reduceNeg, Int.reduceAdd, Int.reduceSub, Int.reduceMul, Option.some.injEq, Sum.inl.injEq, Sum.inr.injEq, ne_eq, not_true, not_false_iff, Int.toNat_natCast, forall_const, and_false, false_and, and_self, eq_self, lc_lt, lc_gt, lc_le, lc_eq, Nat.reduceSub, nc_2, nc_5, nc_6, nc_8, nc_9, nc_10, nc_22, nc_30, nc_41, nc_44, nc_59, nc_176, nc_200, nc_1000, nc_2886, nn0, gi_si, gr_si, gl_si, cn_si, gi_sr, gr_sr, gl_sr, cn_sr, gi_sl, gr_sl, gl_sl, cn_sl, SM_0, SM_1, SM_2, SM_3, SM_4, SM_5, SM_6, SM_7, SM_8, SM_9, SM_10, SM_11, SM_12, SM_13, SM_14, SM_15, SM_16, SM_17, SM_18, SM_19, SM_20]
  refine s_Mo_comes (κ := kM3) (nm := nmx 2 3 0 20 20) (gm_hm19.kf hs3) hx3 (by rw [kM_le.2.1]; omega) (fun h4 hs4 ho4 hx4 => ?_)
  have hs4 := hs3.trans hs4
  simp only [op_aload, op_ci, op_getr, op_iast, op_invV, op_newa, op_oinit, op_putr, op_ret, mc_Mo_begins, ms_Mo_begins, mc_Mo_clean, ms_Mo_clean, mc_Mo_comes, ms_Mo_comes, k2_Mo_init_0, w_Mo_init_0_1_c, w_Mo_init_0_1_n, w_Mo_init_0_2_c, w_Mo_init_0_2_n, w_Mo_init_0_3_c, w_Mo_init_0_3_n, w_Mo_init_0_4_c, w_Mo_init_0_4_n, w_Mo_init_0_5_c, w_Mo_init_0_5_n, w_Mo_init_0_6_c, w_Mo_init_0_6_n, w_Mo_init_0_7_c, w_Mo_init_0_7_n, wpB, wpJ, List.getD_cons_zero, List.getD_cons_succ, lg, lst, lu, spl, catS, catV, c1, List.mem_cons, List.not_mem_nil, or_false, false_or, or_true, true_or, ite_true, ite_false, if_true, if_false, reduceIte, Nat.zero_le, true_and, and_true, Nat.sub_zero, Nat.sub_self, List.nil_append, List.cons_append, List.append_nil, Option.toList_some, Option.toList_none, List.length_cons, List.length_nil, Nat.reduceAdd, Nat.reduceLeDiff, Nat.reduceEqDiff, reduceCtorEq, false_implies, implies_true, not_false_eq_true, not_true_eq_false, List.replicate_succ, List.replicate_zero, Int.reduceLT, Int.reduceLE, Int.reduceEq, Int.reduceNe, Int.reduceToNat, Int.reduceNeg, Int.reduceAdd, Int.reduceSub, Int.reduceMul, Option.some.injEq, Sum.inl.injEq, Sum.inr.injEq, ne_eq, not_true, not_false_iff, Int.toNat_natCast, forall_const, and_false, false_and, and_self, eq_self, lc_lt, lc_gt, lc_le, lc_eq, Nat.reduceSub, nc_2, nc_5, nc_6, nc_8, nc_9, nc_10, nc_22, nc_30, nc_41, nc_44, nc_59, nc_176, nc_200, nc_1000, nc_2886, nn0, gi_si, gr_si, gl_si, cn_si, gi_sr, gr_sr, gl_sr, cn_sr, gi_sl, gr_sl, gl_sl, cn_sl, SM_0, SM_1, SM_2, SM_3, SM_4, SM_5, SM_6, SM_7, SM_8, SM_9, SM_10, SM_11, SM_12, SM_13, SM_14, SM_15, SM_16, SM_17, SM_18, SM_19, SM_20]
  refine s_Mo_comes (κ := kM4) (nm := nmx 0 0 2 24 16) (gm_hm19.kf hs4) hx4 (by rw [kM_le.2.2]; omega) (fun h5 hs5 ho5 hx5 => ?_)
  have hs5 := hs4.trans hs5
  have hg5 := gm_hm19.kf hs5
  have hx5 : RdM h5 kM5 := hx5
  have t2 : ((2 : Int)).toNat = 2 := rfl
  have t51 : ((51 : Int)).toNat = 51 := rfl
  have t52 : ((52 : Int)).toNat = 52 := rfl
  simp only [op_aload, op_ci, op_getr, op_iast, op_invV, op_newa, op_oinit, op_putr, op_ret, mc_Mo_begins, ms_Mo_begins, mc_Mo_clean, ms_Mo_clean, mc_Mo_comes, ms_Mo_comes, k2_Mo_init_0, w_Mo_init_0_1_c, w_Mo_init_0_1_n, w_Mo_init_0_2_c, w_Mo_init_0_2_n, w_Mo_init_0_3_c, w_Mo_init_0_3_n, w_Mo_init_0_4_c, w_Mo_init_0_4_n, w_Mo_init_0_5_c, w_Mo_init_0_5_n, w_Mo_init_0_6_c, w_Mo_init_0_6_n, w_Mo_init_0_7_c, w_Mo_init_0_7_n, wpB, wpJ, List.getD_cons_zero, List.getD_cons_succ, lg, lst, lu, spl, catS, catV, c1, List.mem_cons, List.not_mem_nil, or_false, false_or, or_true, true_or, ite_true, ite_false, if_true, if_false, reduceIte, Nat.zero_le, true_and, and_true, Nat.sub_zero, Nat.sub_self, List.nil_append, List.cons_append, List.append_nil, Option.toList_some, Option.toList_none, List.length_cons, List.length_nil, Nat.reduceAdd, Nat.reduceLeDiff, Nat.reduceEqDiff, reduceCtorEq, false_implies, implies_true, not_false_eq_true, not_true_eq_false, List.replicate_succ, List.replicate_zero, Int.reduceLT, Int.reduceLE, Int.reduceEq, Int.reduceNe, Int.reduceToNat, Int.reduceNeg, Int.reduceAdd, Int.reduceSub, Int.reduceMul, Option.some.injEq, Sum.inl.injEq, Sum.inr.injEq, ne_eq, not_true, not_false_iff, Int.toNat_natCast, forall_const, and_false, false_and, and_self, eq_self, lc_lt, lc_gt, lc_le, lc_eq, Nat.reduceSub, nc_2, nc_5, nc_6, nc_8, nc_9, nc_10, nc_22, nc_30, nc_41, nc_44, nc_59, nc_176, nc_200, nc_1000, nc_2886, nn0, gi_si, gr_si, gl_si, cn_si, gi_sr, gr_sr, gl_sr, cn_sr, gi_sl, gr_sl, gl_sl, cn_sl, SM_0, SM_1, SM_2, SM_3, SM_4, SM_5, SM_6, SM_7, SM_8, SM_9, SM_10, SM_11, SM_12, SM_13, SM_14, SM_15, SM_16, SM_17, SM_18, SM_19, SM_20, gm_1 hg5, t2, t51, t52]
  have hs6 : KF hm19 (si (si (si h5 3 2 3) 3 51 1) 3 52 4) := ((hs5.si (Or.inl rfl)).si (Or.inl rfl)).si (Or.inl rfl)
  have hx6 : RdM (si (si (si h5 3 2 3) 3 51 1) 3 52 4) kM := ((hx5.si 2 3).si 51 1).si 52 4
  refine s_Mo_begins (κ := kM) (k := zf) (w := zf) (gm_hm19.kf hs6) hx6 (fun j => (hs6.2.2.1 2 (by omega) (by omega) (by omega) j).trans (zi_hm19 2 j).1) (fun j => (hs6.2.2.1 4 (by omega) (by omega) (by omega) j).trans (zi_hm19 4 j).1) (fun h7 hR7 ec er e1 e2 f4 f6 f10 => ?_)
  simp only [op_aload, op_ci, op_getr, op_iast, op_invV, op_newa, op_oinit, op_putr, op_ret, mc_Mo_begins, ms_Mo_begins, mc_Mo_clean, ms_Mo_clean, mc_Mo_comes, ms_Mo_comes, k2_Mo_init_0, w_Mo_init_0_1_c, w_Mo_init_0_1_n, w_Mo_init_0_2_c, w_Mo_init_0_2_n, w_Mo_init_0_3_c, w_Mo_init_0_3_n, w_Mo_init_0_4_c, w_Mo_init_0_4_n, w_Mo_init_0_5_c, w_Mo_init_0_5_n, w_Mo_init_0_6_c, w_Mo_init_0_6_n, w_Mo_init_0_7_c, w_Mo_init_0_7_n, wpB, wpJ, List.getD_cons_zero, List.getD_cons_succ, lg, lst, lu, spl, catS, catV, c1, List.mem_cons, List.not_mem_nil, or_false, false_or, or_true, true_or, ite_true, ite_false, if_true, if_false, reduceIte, Nat.zero_le, true_and, and_true, Nat.sub_zero, Nat.sub_self, List.nil_append, List.cons_append, List.append_nil, Option.toList_some, Option.toList_none, List.length_cons, List.length_nil, Nat.reduceAdd, Nat.reduceLeDiff, Nat.reduceEqDiff, reduceCtorEq, false_implies, implies_true, not_false_eq_true, not_true_eq_false, List.replicate_succ, List.replicate_zero, Int.reduceLT, Int.reduceLE, Int.reduceEq, Int.reduceNe, Int.reduceToNat, Int.reduceNeg, Int.reduceAdd, Int.reduceSub, Int.reduceMul, Option.some.injEq, Sum.inl.injEq, Sum.inr.injEq, ne_eq, not_true, not_false_iff, Int.toNat_natCast, forall_const, and_false, false_and, and_self, eq_self, lc_lt, lc_gt, lc_le, lc_eq, Nat.reduceSub, nc_2, nc_5, nc_6, nc_8, nc_9, nc_10, nc_22, nc_30, nc_41, nc_44, nc_59, nc_176, nc_200, nc_1000, nc_2886, nn0, gi_si, gr_si, gl_si, cn_si, gi_sr, gr_sr, gl_sr, cn_sr, gi_sl, gr_sl, gl_sl, cn_sl, SM_0, SM_1, SM_2, SM_3, SM_4, SM_5, SM_6, SM_7, SM_8, SM_9, SM_10, SM_11, SM_12, SM_13, SM_14, SM_15, SM_16, SM_17, SM_18, SM_19, SM_20]
  rw [kM_F, wM_F] at hR7
  have ez : ∀ a, a ≠ 1 → a ≠ 2 → a ≠ 3 → a ≠ 4 → a ≠ 9 → ∀ j, gi h7 a j = 0 := fun a b1 b2 b3 b4 b9 j => (e1 a b1 b2 b4 j).trans ((hs6.2.2.1 a b1 b3 b9 j).trans (zi_hm19 a j).1)
  exact hq h7 ⟨hR7, ⟨(e2 8 (by omega) (by omega) (by omega)).trans ((hs6.2.2.2 8 (by omega) (by omega)).trans (zi_hm19 1 8).1), fun j => ez 7 (by omega) (by omega) (by omega) (by omega) (by omega) j⟩, ⟨f10, fun j => ez 8 (by omega) (by omega) (by omega) (by omega) (by omega) j⟩, ⟨f4, fun j => ez 5 (by omega) (by omega) (by omega) (by omega) (by omega) j⟩, ⟨f6, fun j => ez 6 (by omega) (by omega) (by omega) (by omega) (by omega) j⟩⟩
