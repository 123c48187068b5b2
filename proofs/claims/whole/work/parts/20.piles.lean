/-! STANDINGS AND PILES of the component -/
def up1 (f : Nat → Int) (i : Nat) (v : Int) : Nat → Int := fun j => if j = i then v else f j
def isSt (o : Nat) : Prop := o = 15 ∨ (∃ m, m < 8 ∧ o = 24 + 3 * m) ∨ ∃ m, m < 2 ∧ o = 50 + 3 * m
theorem isSt_f {h : AH} {o : Nat} (hg : GC h) (ho : isSt o) : (SC o = some (.inl 7) ∧ SC (o + 1) = some (.inr (.int, 9)) ∧ SC (o + 2) = some (.inr (.int, 9))) ∧ gr h o 4 = o + 1 ∧ gr h o 5 = o + 2 := by
  rcases ho with rfl | ⟨m, hm, rfl⟩ | ⟨m, hm, rfl⟩
  · exact ⟨⟨rfl, rfl, rfl⟩, g_15_4 hg, g_15_5 hg⟩
  · have : m = 0 ∨ m = 1 ∨ m = 2 ∨ m = 3 ∨ m = 4 ∨ m = 5 ∨ m = 6 ∨ m = 7 := by omega
    rcases this with rfl | rfl | rfl | rfl | rfl | rfl | rfl | rfl
    · exact ⟨⟨rfl, rfl, rfl⟩, g_24_4 hg, g_24_5 hg⟩
    · exact ⟨⟨rfl, rfl, rfl⟩, g_27_4 hg, g_27_5 hg⟩
    · exact ⟨⟨rfl, rfl, rfl⟩, g_30_4 hg, g_30_5 hg⟩
    · exact ⟨⟨rfl, rfl, rfl⟩, g_33_4 hg, g_33_5 hg⟩
    · exact ⟨⟨rfl, rfl, rfl⟩, g_36_4 hg, g_36_5 hg⟩
    · exact ⟨⟨rfl, rfl, rfl⟩, g_39_4 hg, g_39_5 hg⟩
    · exact ⟨⟨rfl, rfl, rfl⟩, g_42_4 hg, g_42_5 hg⟩
    · exact ⟨⟨rfl, rfl, rfl⟩, g_45_4 hg, g_45_5 hg⟩
  · have : m = 0 ∨ m = 1 := by omega
    rcases this with rfl | rfl
    · exact ⟨⟨rfl, rfl, rfl⟩, g_50_4 hg, g_50_5 hg⟩
    · exact ⟨⟨rfl, rfl, rfl⟩, g_53_4 hg, g_53_5 hg⟩
theorem isSt_apart {o s : Nat} (ho : isSt o) (hs : isSt s) (hne : o ≠ s) : (o < s ∧ o + 2 < s) ∨ (s < o ∧ s + 2 < o) := by
  rcases ho with rfl | ⟨m, hm, rfl⟩ | ⟨m, hm, rfl⟩ <;> rcases hs with rfl | ⟨m', hm', rfl⟩ | ⟨m', hm', rfl⟩ <;> omega
set_option maxRecDepth 100000 in
theorem s_St_copyFrom {h : AH} {o s : Nat} {Q : Option AV → AH → Prop} (hg : GC h) (ho : isSt o) (hs : isSt s) (hne : o ≠ s) (hq : ∀ h', Sm (fun a => o ≤ a ∧ a ≤ o + 2) h h' → (∀ v n, n ≤ 9 → SdC h s v n → SdC h' o v n) → Q none h') : AM SC m_St_copyFrom [.inr (.inr o), .inr (.inr s)] h Q := by
  obtain ⟨⟨a1, a2, a3⟩, a4, a5⟩ := isSt_f hg ho
  obtain ⟨⟨b1, b2, b3⟩, b4, b5⟩ := isSt_f hg hs
  have hap := isSt_apart ho hs hne
  have hne' : ¬ s = o := fun z => hne z.symm
  refine AM_of0 rfl rfl (by decide) (Nat.le_of_ble_eq_true rfl) ?_
  refine ok_St_copyFrom.go [] 9 0 ?_; simp only [c_St_copyFrom, op_acopy, op_aload, op_ci, op_geti, op_getr, op_puti, op_ret, wpB, wpJ, List.getD_cons_zero, List.getD_cons_succ, lg, lst, lu, spl, catS, catV, c1, List.mem_cons, List.not_mem_nil, or_false, false_or, or_true, true_or, ite_true, ite_false, if_true, if_false, reduceIte, Nat.zero_le, true_and, and_true, Nat.sub_zero, Nat.sub_self, List.nil_append, List.cons_append, List.append_nil, Option.toList_some, Option.toList_none, List.length_cons, List.length_nil, Nat.reduceAdd, Nat.reduceLeDiff, Nat.reduceEqDiff, reduceCtorEq, false_implies, implies_true, not_false_eq_true, not_true_eq_false, List.replicate_succ, List.replicate_zero, Int.reduceLT, Int.reduceLE, Int.reduceEq, Int.reduceNe, Int.reduceToNat, Int.reduceNeg, Int.reduceAdd, Int.reduceSub, Int.reduceMul, Option.some.injEq, Sum.inl.injEq, Sum.inr.injEq, ne_eq, not_true, not_false_iff, Int.toNat_natCast, forall_const, and_false, false_and, and_self, eq_self, lc_lt, lc_gt, lc_le, lc_eq, Nat.reduceSub, nc_2, nc_5, nc_6, nc_8, nc_9, nc_10, nc_22, nc_30, nc_41, nc_44, nc_59, nc_176, nc_200, nc_1000, nc_2886, nn0, gi_si, gr_si, gl_si, cn_si, gi_sr, gr_sr, gl_sr, cn_sr, gi_sl, gr_sl, gl_sl, cn_sl, SC_0, SC_1, SC_2, SC_3, SC_4, SC_5, SC_6, SC_7, SC_8, SC_9, SC_10, SC_11, SC_12, SC_13, SC_14, SC_15, SC_16, SC_17, SC_18, SC_19, SC_20, SC_21, SC_22, SC_23, SC_24, SC_25, SC_26, SC_27, SC_28, SC_29, SC_30, SC_31, SC_32, SC_33, SC_34, SC_35, SC_36, SC_37, SC_38, SC_39, SC_40, SC_41, SC_42, SC_43, SC_44, SC_45, SC_46, SC_47, SC_48, SC_49, SC_50, SC_51, SC_52, SC_53, SC_54, SC_55, SC_56, SC_57, SC_58, SC_59, SC_60, SC_61, SC_62, SC_63, SC_64, SC_65, SC_66, SC_67, SC_68, SC_69, SC_70, SC_71, SC_72, SC_73, SC_74, SC_75, SC_76, SC_77, SC_78, SC_79, SC_80, SC_81, entL, show m_St_copyFrom.2.2.1 = 2 from rfl, a1, a2, a3, a4, a5, b1, b2, b3, b4, b5, gr_cpi, hne', Int.reduceToNat]
  repeat' (first | omega | (apply And.intro))
  refine hq _ ?_ ?_
  · exact (((((((Sm.rfl'.si (by omega)).si (by omega)).si (by omega)).si (by omega)).cpi (by omega)).cpi (by omega)))
  · intro v n hn hv
    obtain ⟨v0, v1, v2, v3, v4⟩ := hv
    have n1 : ¬ o = o + 1 := by omega
    have n2 : ¬ o = o + 2 := by omega
    have n3 : ¬ o + 1 = o + 2 := by omega
    have n4 : ¬ s + 1 = o := by omega
    have n5 : ¬ s + 2 = o := by omega
    have n6 : ¬ s + 2 = o + 1 := by omega
    have n7 : ¬ o + 1 = o := by omega
    have n8 : ¬ o + 2 = o + 1 := by omega
    refine ⟨?_, ?_, ?_, ?_, fun r hr => ⟨?_, ?_⟩⟩
    · simp only [gi_cpi, gi_si, n1, n2, false_and, if_false, true_and, and_true, if_true, Nat.reduceEqDiff, v0]
    · simp only [gi_cpi, gi_si, n1, n2, false_and, if_false, true_and, and_true, if_true, Nat.reduceEqDiff, v1]
    · simp only [gi_cpi, gi_si, n1, n2, false_and, if_false, true_and, and_true, if_true, Nat.reduceEqDiff, v2]
    · simp only [gi_cpi, gi_si, n1, n2, false_and, if_false, true_and, and_true, if_true, Nat.reduceEqDiff, v3]
    · have hr9 : r < 0 + 9 := by omega
      simp only [gi_cpi, gi_si, n3, n4, n7, false_and, if_false, true_and, and_true, if_true, Nat.zero_le, hr9, Nat.zero_add, Nat.sub_zero]
      exact (v4 r hr).1
    · have hr9 : r < 0 + 9 := by omega
      simp only [gi_cpi, gi_si, n5, n6, n8, false_and, if_false, true_and, and_true, if_true, Nat.zero_le, hr9, Nat.zero_add, Nat.sub_zero]
      exact (v4 r hr).2
theorem RC.sd {h : AH} {k w : Nat → Int} (hR : RC h k w) : SdC h 15 w (k 1) :=
  ⟨hR.2.2.1.1, hR.2.2.1.2.1, hR.2.2.1.2.2.1, hR.2.2.1.2.2.2, fun r hr => ⟨(hR.2.2.2.1 r hr).2.2.2.1, (hR.2.2.2.1 r hr).2.2.2.2⟩⟩
/-- the county as it was, standing otherwise -/
theorem RC.now {h h' : AH} {k w w' : Nat → Int} (hR : RC h k w) (hg : GC h') (hi : ∀ a, (a = 14 ∨ (18 ≤ a ∧ a ≤ 21)) → ∀ j, gi h' a j = gi h a j) (hs : SdC h' 15 w' (k 1)) : RC h' k w' := by
  obtain ⟨-, h2, -, h4, h5⟩ := hR
  have e14 := hi 14 (by omega)
  refine ⟨hg, by rw [e14, e14, e14]; exact h2, ⟨hs.1, hs.2.1, hs.2.2.1, hs.2.2.2.1⟩, fun r hr => ?_, fun i hi' => ?_⟩
  · rw [hi 18 (by omega), hi 19 (by omega), hi 20 (by omega)]
    have := h4 r hr
    exact ⟨this.1, this.2.1, this.2.2.1, hs.2.2.2.2 r hr⟩
  · rw [hi 21 (by omega)]
    exact h5 i hi'
/-- v at the place n of rows of 22 -/
def put (pa : Nat → Int) (n : Nat) (v : Nat → Int) : Nat → Int := fun j => if 22 * n ≤ j ∧ j < 22 * n + 22 then v (j - 22 * n) else pa j
theorem put_at {pa : Nat → Int} {n : Nat} {v : Nat → Int} {j : Nat} (hj : j < 22) : put pa n v (22 * n + j) = v j := by
  unfold put; rw [if_pos (by omega)]; congr 1; omega
theorem put_ne {pa : Nat → Int} {n i : Nat} {v : Nat → Int} {j : Nat} (hj : j < 22) (hi : i ≠ n) : put pa n v (22 * i + j) = pa (22 * i + j) := by
  unfold put; rw [if_neg (by omega)]
theorem SdC.vx {h : AH} {o : Nat} {v v' : Nat → Int} {n : Int} (hn : n ≤ 9) (e : ∀ j, j < 22 → v' j = v j) (hS : SdC h o v n) : SdC h o v' n := by
  obtain ⟨h0, h1, h2, h3, h4⟩ := hS
  refine ⟨by rw [e 0 (by omega)]; exact h0, by rw [e 1 (by omega)]; exact h1, by rw [e 2 (by omega)]; exact h2, by rw [e 3 (by omega)]; exact h3, fun r hr => ?_⟩
  rw [e (4 + r) (by omega), e (13 + r) (by omega)]
  exact h4 r hr
def pilO (P B N : Nat) (a : Nat) : Prop := a = P ∨ (B ≤ a ∧ a < B + 3 * N)
/-- which piles there are -/
def isPi (h : AH) (P R B N : Nat) : Prop := (P = 22 ∧ R = 23 ∧ B = 24 ∧ N = 8) ∨ (P = 48 ∧ R = 49 ∧ B = 50 ∧ N = 2)
theorem isPi_f {h : AH} {P R B N : Nat} (hg : GC h) (hp : isPi h P R B N) : SC P = some (.inl 4) ∧ SC R = some (.inr (.object "SumsThatDiffer$Standing", N)) ∧ gr h P 0 = R ∧ (∀ m, m < N → isSt (B + 3 * m)) ∧ (N ≤ 8 ∧ 17 < B ∧ B + 3 * N < 81 ∧ P < B ∧ 17 < P) := by
  rcases hp with ⟨rfl, rfl, rfl, rfl⟩ | ⟨rfl, rfl, rfl, rfl⟩
  · exact ⟨rfl, rfl, g_22_0 hg, fun m hm => Or.inr (Or.inl ⟨m, hm, rfl⟩), by omega⟩
  · exact ⟨rfl, rfl, g_48_0 hg, fun m hm => Or.inr (Or.inr ⟨m, hm, rfl⟩), by omega⟩
set_option maxRecDepth 100000 in
theorem a_Pi_put {h : AH} {P R B N : Nat} {pa : Nat → Int} {u : Nat} {n : Int} {w : Nat → Int} {Q : Option AV → AH → Prop} (hg : GC h) (hp : isPi h P R B N) (hu : u < N) (hn : n ≤ 9) (hpi : PiC h P R B N pa u n) (hw : SdC h 15 w n)
    (hq : ∀ h', Sm (pilO P B N) h h' → PiC h' P R B N (put pa u w) ((u + 1 : Nat) : Int) n → Q none h') : AW SC m_Pi_push 0 0 (t_Pi_push 1) [some (.inr (.inr P)), some (.inr (.inr 15))] [] h Q := by
  obtain ⟨f1, f2, f3, f4, f5⟩ := isPi_f hg hp
  obtain ⟨p1, p2, p3, p4⟩ := id hpi
  obtain ⟨m, hm, em⟩ := p2 u hu
  have hst := f4 m hm
  have hN : (u : Int) < ((N : Nat) : Int) := by omega
  have hNf : (((N : Nat) : Int) ≤ (u : Int)) = False := eq_false (by omega)
  have hN3 : N < 2147483648 := by omega
  refine ok_Pi_push.go [] 3 1 ?_; simp only [c_Pi_push, op_aald, op_alen, op_aload, op_ci, op_dup, op_geti, op_getr, op_goto, op_iadd, op_icge, op_ifeq, op_invV, op_puti, op_ret, mc_Pi_dropOldest, ms_Pi_dropOldest, mc_Pi_isFull, ms_Pi_isFull, mc_St_copyFrom, ms_St_copyFrom, ATY, wpB, wpJ, List.getD_cons_zero, List.getD_cons_succ, lg, lst, lu, spl, catS, catV, c1, List.mem_cons, List.not_mem_nil, or_false, false_or, or_true, true_or, ite_true, ite_false, if_true, if_false, reduceIte, Nat.zero_le, true_and, and_true, Nat.sub_zero, Nat.sub_self, List.nil_append, List.cons_append, List.append_nil, Option.toList_some, Option.toList_none, List.length_cons, List.length_nil, Nat.reduceAdd, Nat.reduceLeDiff, Nat.reduceEqDiff, reduceCtorEq, false_implies, implies_true, not_false_eq_true, not_true_eq_false, List.replicate_succ, List.replicate_zero, Int.reduceLT, Int.reduceLE, Int.reduceEq, Int.reduceNe, Int.reduceToNat, Int.reduceNeg, Int.reduceAdd, Int.reduceSub, Int.reduceMul, Option.some.injEq, Sum.inl.injEq, Sum.inr.injEq, ne_eq, not_true, not_false_iff, Int.toNat_natCast, forall_const, and_false, false_and, and_self, eq_self, lc_lt, lc_gt, lc_le, lc_eq, Nat.reduceSub, nc_2, nc_5, nc_6, nc_8, nc_9, nc_10, nc_22, nc_30, nc_41, nc_44, nc_59, nc_176, nc_200, nc_1000, nc_2886, nn0, gi_si, gr_si, gl_si, cn_si, gi_sr, gr_sr, gl_sr, cn_sr, gi_sl, gr_sl, gl_sl, cn_sl, SC_0, SC_1, SC_2, SC_3, SC_4, SC_5, SC_6, SC_7, SC_8, SC_9, SC_10, SC_11, SC_12, SC_13, SC_14, SC_15, SC_16, SC_17, SC_18, SC_19, SC_20, SC_21, SC_22, SC_23, SC_24, SC_25, SC_26, SC_27, SC_28, SC_29, SC_30, SC_31, SC_32, SC_33, SC_34, SC_35, SC_36, SC_37, SC_38, SC_39, SC_40, SC_41, SC_42, SC_43, SC_44, SC_45, SC_46, SC_47, SC_48, SC_49, SC_50, SC_51, SC_52, SC_53, SC_54, SC_55, SC_56, SC_57, SC_58, SC_59, SC_60, SC_61, SC_62, SC_63, SC_64, SC_65, SC_66, SC_67, SC_68, SC_69, SC_70, SC_71, SC_72, SC_73, SC_74, SC_75, SC_76, SC_77, SC_78, SC_79, SC_80, SC_81, entL, show m_Pi_push.2.2.1 = 2 from rfl, f1, f2, f3, p1, hN, hNf, hN3, em]
  refine ⟨(isSt_f hg hst).1.1, s_St_copyFrom hg hst (Or.inl rfl) (by omega) (fun h' hs hcp => ?_)⟩
  have e1 : gi h' P 1 = u := by rw [(hs.2.2 P (by omega)).1 1, p1]
  simp only [c_Pi_push, op_aald, op_alen, op_aload, op_ci, op_dup, op_geti, op_getr, op_goto, op_iadd, op_icge, op_ifeq, op_invV, op_puti, op_ret, mc_Pi_dropOldest, ms_Pi_dropOldest, mc_Pi_isFull, ms_Pi_isFull, mc_St_copyFrom, ms_St_copyFrom, ATY, wpB, wpJ, List.getD_cons_zero, List.getD_cons_succ, lg, lst, lu, spl, catS, catV, c1, List.mem_cons, List.not_mem_nil, or_false, false_or, or_true, true_or, ite_true, ite_false, if_true, if_false, reduceIte, Nat.zero_le, true_and, and_true, Nat.sub_zero, Nat.sub_self, List.nil_append, List.cons_append, List.append_nil, Option.toList_some, Option.toList_none, List.length_cons, List.length_nil, Nat.reduceAdd, Nat.reduceLeDiff, Nat.reduceEqDiff, reduceCtorEq, false_implies, implies_true, not_false_eq_true, not_true_eq_false, List.replicate_succ, List.replicate_zero, Int.reduceLT, Int.reduceLE, Int.reduceEq, Int.reduceNe, Int.reduceToNat, Int.reduceNeg, Int.reduceAdd, Int.reduceSub, Int.reduceMul, Option.some.injEq, Sum.inl.injEq, Sum.inr.injEq, ne_eq, not_true, not_false_iff, Int.toNat_natCast, forall_const, and_false, false_and, and_self, eq_self, lc_lt, lc_gt, lc_le, lc_eq, Nat.reduceSub, nc_2, nc_5, nc_6, nc_8, nc_9, nc_10, nc_22, nc_30, nc_41, nc_44, nc_59, nc_176, nc_200, nc_1000, nc_2886, nn0, gi_si, gr_si, gl_si, cn_si, gi_sr, gr_sr, gl_sr, cn_sr, gi_sl, gr_sl, gl_sl, cn_sl, SC_0, SC_1, SC_2, SC_3, SC_4, SC_5, SC_6, SC_7, SC_8, SC_9, SC_10, SC_11, SC_12, SC_13, SC_14, SC_15, SC_16, SC_17, SC_18, SC_19, SC_20, SC_21, SC_22, SC_23, SC_24, SC_25, SC_26, SC_27, SC_28, SC_29, SC_30, SC_31, SC_32, SC_33, SC_34, SC_35, SC_36, SC_37, SC_38, SC_39, SC_40, SC_41, SC_42, SC_43, SC_44, SC_45, SC_46, SC_47, SC_48, SC_49, SC_50, SC_51, SC_52, SC_53, SC_54, SC_55, SC_56, SC_57, SC_58, SC_59, SC_60, SC_61, SC_62, SC_63, SC_64, SC_65, SC_66, SC_67, SC_68, SC_69, SC_70, SC_71, SC_72, SC_73, SC_74, SC_75, SC_76, SC_77, SC_78, SC_79, SC_80, SC_81, f1, e1]
  rw [wr_id (by omega) (by omega)]
  have hs2 : Sm (pilO P B N) h (si h' P 1 ((u : Int) + 1)) := Sm.si (hs.mono (fun x hx => by unfold pilO; omega)) (Or.inl rfl)
  refine hq _ hs2 ⟨by rw [gi_si]; rw [if_pos ⟨rfl, rfl⟩]; omega, fun i hi => ?_, fun i j hi hj hij => ?_, fun i hi => ?_⟩
  · rw [hs2.2.1]; exact p2 i hi
  · rw [hs2.2.1] at hij; exact p3 i j hi hj hij
  · rw [hs2.2.1]
    by_cases hiu : i = u
    · subst hiu
      rw [em]
      refine SdC.vx hn (v := w) (fun j hj => put_at hj) ((hcp w n hn hw).ext (fun a g1 g2 j => ?_))
      rw [gi_si, if_neg (by omega)]
    · obtain ⟨m2, hm2, em2⟩ := p2 i (by omega)
      have hne : m2 ≠ m := fun z => hiu (p3 i u (by omega) hu (by rw [em2, em, z]))
      refine SdC.vx hn (v := fun j => pa (22 * i + j)) (fun j hj => put_ne hj hiu) ((p4 i (by omega)).ext (fun a g1 g2 j => ?_))
      rw [em2] at g1 g2
      rw [gi_si, if_neg (by omega)]
      exact (hs.2.2 a (by omega)).1 j
set_option maxRecDepth 100000 in
theorem s_Pi_put {h : AH} {P R B N : Nat} {pa : Nat → Int} {u : Nat} {n : Int} {w : Nat → Int} {Q : Option AV → AH → Prop} (hg : GC h) (hp : isPi h P R B N) (hu : u < N) (hn : n ≤ 9) (hpi : PiC h P R B N pa u n) (hw : SdC h 15 w n)
    (hq : ∀ h', Sm (pilO P B N) h h' → PiC h' P R B N (put pa u w) ((u + 1 : Nat) : Int) n → Q none h') : AM SC m_Pi_push [.inr (.inr P), .inr (.inr 15)] h Q := by
  obtain ⟨f1, f2, f3, f4, f5⟩ := isPi_f hg hp
  obtain ⟨p1, p2, p3, p4⟩ := id hpi
  have hN : (u : Int) < ((N : Nat) : Int) := by omega
  have hN3 : N < 2147483648 := by omega
  refine AM_of0 rfl rfl (by decide) (Nat.le_of_ble_eq_true rfl) ?_
  refine ok_Pi_push.go [1] 3 0 ?_; simp only [c_Pi_push, op_aald, op_alen, op_aload, op_ci, op_dup, op_geti, op_getr, op_goto, op_iadd, op_icge, op_ifeq, op_invV, op_puti, op_ret, mc_Pi_dropOldest, ms_Pi_dropOldest, mc_Pi_isFull, ms_Pi_isFull, mc_St_copyFrom, ms_St_copyFrom, ATY, wpB, wpJ, List.getD_cons_zero, List.getD_cons_succ, lg, lst, lu, spl, catS, catV, c1, List.mem_cons, List.not_mem_nil, or_false, false_or, or_true, true_or, ite_true, ite_false, if_true, if_false, reduceIte, Nat.zero_le, true_and, and_true, Nat.sub_zero, Nat.sub_self, List.nil_append, List.cons_append, List.append_nil, Option.toList_some, Option.toList_none, List.length_cons, List.length_nil, Nat.reduceAdd, Nat.reduceLeDiff, Nat.reduceEqDiff, reduceCtorEq, false_implies, implies_true, not_false_eq_true, not_true_eq_false, List.replicate_succ, List.replicate_zero, Int.reduceLT, Int.reduceLE, Int.reduceEq, Int.reduceNe, Int.reduceToNat, Int.reduceNeg, Int.reduceAdd, Int.reduceSub, Int.reduceMul, Option.some.injEq, Sum.inl.injEq, Sum.inr.injEq, ne_eq, not_true, not_false_iff, Int.toNat_natCast, forall_const, and_false, false_and, and_self, eq_self, lc_lt, lc_gt, lc_le, lc_eq, Nat.reduceSub, nc_2, nc_5, nc_6, nc_8, nc_9, nc_10, nc_22, nc_30, nc_41, nc_44, nc_59, nc_176, nc_200, nc_1000, nc_2886, nn0, gi_si, gr_si, gl_si, cn_si, gi_sr, gr_sr, gl_sr, cn_sr, gi_sl, gr_sl, gl_sl, cn_sl, SC_0, SC_1, SC_2, SC_3, SC_4, SC_5, SC_6, SC_7, SC_8, SC_9, SC_10, SC_11, SC_12, SC_13, SC_14, SC_15, SC_16, SC_17, SC_18, SC_19, SC_20, SC_21, SC_22, SC_23, SC_24, SC_25, SC_26, SC_27, SC_28, SC_29, SC_30, SC_31, SC_32, SC_33, SC_34, SC_35, SC_36, SC_37, SC_38, SC_39, SC_40, SC_41, SC_42, SC_43, SC_44, SC_45, SC_46, SC_47, SC_48, SC_49, SC_50, SC_51, SC_52, SC_53, SC_54, SC_55, SC_56, SC_57, SC_58, SC_59, SC_60, SC_61, SC_62, SC_63, SC_64, SC_65, SC_66, SC_67, SC_68, SC_69, SC_70, SC_71, SC_72, SC_73, SC_74, SC_75, SC_76, SC_77, SC_78, SC_79, SC_80, SC_81, entL, show m_Pi_push.2.2.1 = 2 from rfl, f1, f2, f3]
  refine AM_of0 rfl rfl (by decide) (Nat.le_of_ble_eq_true rfl) ?_
  refine ok_Pi_isFull.go [] 3 0 ?_; simp only [c_Pi_isFull, op_alen, op_aload, op_ci, op_geti, op_getr, op_goto, op_iclt, op_zret, ATY, wpB, wpJ, List.getD_cons_zero, List.getD_cons_succ, lg, lst, lu, spl, catS, catV, c1, List.mem_cons, List.not_mem_nil, or_false, false_or, or_true, true_or, ite_true, ite_false, if_true, if_false, reduceIte, Nat.zero_le, true_and, and_true, Nat.sub_zero, Nat.sub_self, List.nil_append, List.cons_append, List.append_nil, Option.toList_some, Option.toList_none, List.length_cons, List.length_nil, Nat.reduceAdd, Nat.reduceLeDiff, Nat.reduceEqDiff, reduceCtorEq, false_implies, implies_true, not_false_eq_true, not_true_eq_false, List.replicate_succ, List.replicate_zero, Int.reduceLT, Int.reduceLE, Int.reduceEq, Int.reduceNe, Int.reduceToNat, Int.reduceNeg, Int.reduceAdd, Int.reduceSub, Int.reduceMul, Option.some.injEq, Sum.inl.injEq, Sum.inr.injEq, ne_eq, not_true, not_false_iff, Int.toNat_natCast, forall_const, and_false, false_and, and_self, eq_self, lc_lt, lc_gt, lc_le, lc_eq, Nat.reduceSub, nc_2, nc_5, nc_6, nc_8, nc_9, nc_10, nc_22, nc_30, nc_41, nc_44, nc_59, nc_176, nc_200, nc_1000, nc_2886, nn0, gi_si, gr_si, gl_si, cn_si, gi_sr, gr_sr, gl_sr, cn_sr, gi_sl, gr_sl, gl_sl, cn_sl, SC_0, SC_1, SC_2, SC_3, SC_4, SC_5, SC_6, SC_7, SC_8, SC_9, SC_10, SC_11, SC_12, SC_13, SC_14, SC_15, SC_16, SC_17, SC_18, SC_19, SC_20, SC_21, SC_22, SC_23, SC_24, SC_25, SC_26, SC_27, SC_28, SC_29, SC_30, SC_31, SC_32, SC_33, SC_34, SC_35, SC_36, SC_37, SC_38, SC_39, SC_40, SC_41, SC_42, SC_43, SC_44, SC_45, SC_46, SC_47, SC_48, SC_49, SC_50, SC_51, SC_52, SC_53, SC_54, SC_55, SC_56, SC_57, SC_58, SC_59, SC_60, SC_61, SC_62, SC_63, SC_64, SC_65, SC_66, SC_67, SC_68, SC_69, SC_70, SC_71, SC_72, SC_73, SC_74, SC_75, SC_76, SC_77, SC_78, SC_79, SC_80, SC_81, entL, show m_Pi_isFull.2.2.1 = 1 from rfl, f1, f2, f3, p1, hN3, hN, Int.not_le]
  exact a_Pi_put hg hp hu hn hpi hw hq
set_option maxRecDepth 100000 in
theorem s_Pi_pop {h : AH} {P R B N : Nat} {pa : Nat → Int} {u : Nat} {n : Int} {Q : Option AV → AH → Prop} (hg : GC h) (hp : isPi h P R B N) (hu : u ≤ N) (hn : n ≤ 9) (hpi : PiC h P R B N pa u n)
    (h1 : 1 ≤ u → ∀ h', Sm (fun a => a = P ∨ (15 ≤ a ∧ a ≤ 17)) h h' → SdC h' 15 (fun j => pa (22 * (u - 1) + j)) n → PiC h' P R B N pa ((u - 1 : Nat) : Int) n → Q (some (.inl 1)) h') (h0 : u = 0 → Q (some (.inl 0)) h) : AM SC m_Pi_popInto [.inr (.inr P), .inr (.inr 15)] h Q := by
  obtain ⟨f1, f2, f3, f4, f5⟩ := isPi_f hg hp
  obtain ⟨p1, p2, p3, p4⟩ := id hpi
  refine AM_of0 rfl rfl (by decide) (Nat.le_of_ble_eq_true rfl) ?_
  have hN3 : N < 2147483648 := by omega
  have hle : (u : Int) ≤ ((N : Nat) : Int) := by omega
  refine ok_Pi_popInto.go [] 3 0 ?_; simp only [c_Pi_popInto, op_aald, op_alen, op_aload, op_ci, op_dup, op_geti, op_getr, op_goto, op_icle, op_ifle, op_invV, op_isub, op_puti, op_zret, mc_St_copyFrom, ms_St_copyFrom, ATY, wpB, wpJ, List.getD_cons_zero, List.getD_cons_succ, lg, lst, lu, spl, catS, catV, c1, List.mem_cons, List.not_mem_nil, or_false, false_or, or_true, true_or, ite_true, ite_false, if_true, if_false, reduceIte, Nat.zero_le, true_and, and_true, Nat.sub_zero, Nat.sub_self, List.nil_append, List.cons_append, List.append_nil, Option.toList_some, Option.toList_none, List.length_cons, List.length_nil, Nat.reduceAdd, Nat.reduceLeDiff, Nat.reduceEqDiff, reduceCtorEq, false_implies, implies_true, not_false_eq_true, not_true_eq_false, List.replicate_succ, List.replicate_zero, Int.reduceLT, Int.reduceLE, Int.reduceEq, Int.reduceNe, Int.reduceToNat, Int.reduceNeg, Int.reduceAdd, Int.reduceSub, Int.reduceMul, Option.some.injEq, Sum.inl.injEq, Sum.inr.injEq, ne_eq, not_true, not_false_iff, Int.toNat_natCast, forall_const, and_false, false_and, and_self, eq_self, lc_lt, lc_gt, lc_le, lc_eq, Nat.reduceSub, nc_2, nc_5, nc_6, nc_8, nc_9, nc_10, nc_22, nc_30, nc_41, nc_44, nc_59, nc_176, nc_200, nc_1000, nc_2886, nn0, gi_si, gr_si, gl_si, cn_si, gi_sr, gr_sr, gl_sr, cn_sr, gi_sl, gr_sl, gl_sl, cn_sl, SC_0, SC_1, SC_2, SC_3, SC_4, SC_5, SC_6, SC_7, SC_8, SC_9, SC_10, SC_11, SC_12, SC_13, SC_14, SC_15, SC_16, SC_17, SC_18, SC_19, SC_20, SC_21, SC_22, SC_23, SC_24, SC_25, SC_26, SC_27, SC_28, SC_29, SC_30, SC_31, SC_32, SC_33, SC_34, SC_35, SC_36, SC_37, SC_38, SC_39, SC_40, SC_41, SC_42, SC_43, SC_44, SC_45, SC_46, SC_47, SC_48, SC_49, SC_50, SC_51, SC_52, SC_53, SC_54, SC_55, SC_56, SC_57, SC_58, SC_59, SC_60, SC_61, SC_62, SC_63, SC_64, SC_65, SC_66, SC_67, SC_68, SC_69, SC_70, SC_71, SC_72, SC_73, SC_74, SC_75, SC_76, SC_77, SC_78, SC_79, SC_80, SC_81, entL, show m_Pi_popInto.2.2.1 = 2 from rfl, f1, f2, f3, p1, hN3, hle]
  refine ⟨fun q => h0 (by omega), fun q => ?_⟩
  rw [wr_id (by omega) (by omega), show (u : Int) - 1 = ((u - 1 : Nat) : Int) by omega]
  have hg1 : GC (si h P 1 ((u - 1 : Nat) : Int)) := hg.sm (Sm.si (P := fun a => a = P) Sm.rfl' rfl)
  obtain ⟨m, hm, em⟩ := p2 (u - 1) (by omega)
  have hst := f4 m hm
  have hN : ((u - 1 : Nat) : Int) < ((N : Nat) : Int) := by omega
  simp only [c_Pi_popInto, op_aald, op_alen, op_aload, op_ci, op_dup, op_geti, op_getr, op_goto, op_icle, op_ifle, op_invV, op_isub, op_puti, op_zret, mc_St_copyFrom, ms_St_copyFrom, ATY, wpB, wpJ, List.getD_cons_zero, List.getD_cons_succ, lg, lst, lu, spl, catS, catV, c1, List.mem_cons, List.not_mem_nil, or_false, false_or, or_true, true_or, ite_true, ite_false, if_true, if_false, reduceIte, Nat.zero_le, true_and, and_true, Nat.sub_zero, Nat.sub_self, List.nil_append, List.cons_append, List.append_nil, Option.toList_some, Option.toList_none, List.length_cons, List.length_nil, Nat.reduceAdd, Nat.reduceLeDiff, Nat.reduceEqDiff, reduceCtorEq, false_implies, implies_true, not_false_eq_true, not_true_eq_false, List.replicate_succ, List.replicate_zero, Int.reduceLT, Int.reduceLE, Int.reduceEq, Int.reduceNe, Int.reduceToNat, Int.reduceNeg, Int.reduceAdd, Int.reduceSub, Int.reduceMul, Option.some.injEq, Sum.inl.injEq, Sum.inr.injEq, ne_eq, not_true, not_false_iff, Int.toNat_natCast, forall_const, and_false, false_and, and_self, eq_self, lc_lt, lc_gt, lc_le, lc_eq, Nat.reduceSub, nc_2, nc_5, nc_6, nc_8, nc_9, nc_10, nc_22, nc_30, nc_41, nc_44, nc_59, nc_176, nc_200, nc_1000, nc_2886, nn0, gi_si, gr_si, gl_si, cn_si, gi_sr, gr_sr, gl_sr, cn_sr, gi_sl, gr_sl, gl_sl, cn_sl, SC_0, SC_1, SC_2, SC_3, SC_4, SC_5, SC_6, SC_7, SC_8, SC_9, SC_10, SC_11, SC_12, SC_13, SC_14, SC_15, SC_16, SC_17, SC_18, SC_19, SC_20, SC_21, SC_22, SC_23, SC_24, SC_25, SC_26, SC_27, SC_28, SC_29, SC_30, SC_31, SC_32, SC_33, SC_34, SC_35, SC_36, SC_37, SC_38, SC_39, SC_40, SC_41, SC_42, SC_43, SC_44, SC_45, SC_46, SC_47, SC_48, SC_49, SC_50, SC_51, SC_52, SC_53, SC_54, SC_55, SC_56, SC_57, SC_58, SC_59, SC_60, SC_61, SC_62, SC_63, SC_64, SC_65, SC_66, SC_67, SC_68, SC_69, SC_70, SC_71, SC_72, SC_73, SC_74, SC_75, SC_76, SC_77, SC_78, SC_79, SC_80, SC_81, f1, f2, f3, em, hN]
  refine s_St_copyFrom hg1 (Or.inl rfl) hst (by omega) (fun h' hs hcp => ?_)
  simp only [c_Pi_popInto, op_aald, op_alen, op_aload, op_ci, op_dup, op_geti, op_getr, op_goto, op_icle, op_ifle, op_invV, op_isub, op_puti, op_zret, mc_St_copyFrom, ms_St_copyFrom, ATY, wpB, wpJ, List.getD_cons_zero, List.getD_cons_succ, lg, lst, lu, spl, catS, catV, c1, List.mem_cons, List.not_mem_nil, or_false, false_or, or_true, true_or, ite_true, ite_false, if_true, if_false, reduceIte, Nat.zero_le, true_and, and_true, Nat.sub_zero, Nat.sub_self, List.nil_append, List.cons_append, List.append_nil, Option.toList_some, Option.toList_none, List.length_cons, List.length_nil, Nat.reduceAdd, Nat.reduceLeDiff, Nat.reduceEqDiff, reduceCtorEq, false_implies, implies_true, not_false_eq_true, not_true_eq_false, List.replicate_succ, List.replicate_zero, Int.reduceLT, Int.reduceLE, Int.reduceEq, Int.reduceNe, Int.reduceToNat, Int.reduceNeg, Int.reduceAdd, Int.reduceSub, Int.reduceMul, Option.some.injEq, Sum.inl.injEq, Sum.inr.injEq, ne_eq, not_true, not_false_iff, Int.toNat_natCast, forall_const, and_false, false_and, and_self, eq_self, lc_lt, lc_gt, lc_le, lc_eq, Nat.reduceSub, nc_2, nc_5, nc_6, nc_8, nc_9, nc_10, nc_22, nc_30, nc_41, nc_44, nc_59, nc_176, nc_200, nc_1000, nc_2886, nn0, gi_si, gr_si, gl_si, cn_si, gi_sr, gr_sr, gl_sr, cn_sr, gi_sl, gr_sl, gl_sl, cn_sl, SC_0, SC_1, SC_2, SC_3, SC_4, SC_5, SC_6, SC_7, SC_8, SC_9, SC_10, SC_11, SC_12, SC_13, SC_14, SC_15, SC_16, SC_17, SC_18, SC_19, SC_20, SC_21, SC_22, SC_23, SC_24, SC_25, SC_26, SC_27, SC_28, SC_29, SC_30, SC_31, SC_32, SC_33, SC_34, SC_35, SC_36, SC_37, SC_38, SC_39, SC_40, SC_41, SC_42, SC_43, SC_44, SC_45, SC_46, SC_47, SC_48, SC_49, SC_50, SC_51, SC_52, SC_53, SC_54, SC_55, SC_56, SC_57, SC_58, SC_59, SC_60, SC_61, SC_62, SC_63, SC_64, SC_65, SC_66, SC_67, SC_68, SC_69, SC_70, SC_71, SC_72, SC_73, SC_74, SC_75, SC_76, SC_77, SC_78, SC_79, SC_80, SC_81]
  have hs2 : Sm (fun a => a = P ∨ (15 ≤ a ∧ a ≤ 17)) h h' := (Sm.si (P := fun a => a = P ∨ (15 ≤ a ∧ a ≤ 17)) Sm.rfl' (Or.inl rfl)).trans (hs.mono (fun x hx => by omega))
  have e1 : gi h' P 1 = ((u - 1 : Nat) : Int) := by rw [(hs.2.2 P (by omega)).1 1, gi_si, if_pos ⟨rfl, rfl⟩]
  refine h1 (by omega) h' hs2 ?_ ⟨e1, fun i hi => ?_, fun i j hi hj hij => ?_, fun i hi => ?_⟩
  · refine hcp _ n hn ((em ▸ p4 (u - 1) (by omega)).ext (fun a g1 g2 j => ?_))
    rw [gi_si, if_neg (by omega)]
  · rw [hs2.2.1]; exact p2 i hi
  · rw [hs2.2.1] at hij; exact p3 i j hi hj hij
  · rw [hs2.2.1]
    obtain ⟨m2, hm2, em2⟩ := p2 i (by omega)
    refine (p4 i (by omega)).ext (fun a g1 g2 j => ?_)
    rw [em2] at g1 g2
    exact (hs2.2.2 a (by omega)).1 j
