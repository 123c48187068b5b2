/-! THE CONSTRUCTOR OF THE COMPONENT -/
theorem tw_90 : (Jvm.Cond.methodLink "SumsThatDiffer" (1 : Nat) ({ cls := "java/lang/Object", name := "<init>", desc := "()V" } : Jvm.MethodName)) ∈ TB := tb_in 90 (by decide +kernel) rfl
theorem tw_93 : (Jvm.Cond.classLink "SumsThatDiffer" (7 : Nat) "SumsThatDiffer$Letters") ∈ TB := tb_in 93 (by decide +kernel) rfl
theorem tw_94 : (Jvm.Cond.instantiable "SumsThatDiffer$Letters" (2 : Nat)) ∈ TB := tb_in 94 (by decide +kernel) rfl
theorem tw_95 : (Jvm.Cond.methodLinkNest "SumsThatDiffer" (9 : Nat) ({ cls := "SumsThatDiffer$Letters", name := "<init>", desc := "()V" } : Jvm.MethodName) "SumsThatDiffer") ∈ NB := nb_in 95 (by decide +kernel) rfl
theorem tw_96 : (Jvm.Cond.instanceMethod ({ cls := "SumsThatDiffer$Letters", name := "<init>", desc := "()V" } : Jvm.MethodName)) ∈ TB := tb_in 96 (by decide +kernel) rfl
theorem tw_97 : (Jvm.Cond.code ({ cls := "SumsThatDiffer$Letters", name := "<init>", desc := "()V" } : Jvm.MethodName) prog_5_method_1_code (1 : Nat) (Option.none : Option Jvm.ClassFile.FieldType)) ∈ TB := tb_in 97 (by decide +kernel) rfl
theorem tw_107 : (Jvm.Cond.classLink "SumsThatDiffer" (16 : Nat) "SumsThatDiffer$Reading") ∈ TB := tb_in 107 (by decide +kernel) rfl
theorem tw_108 : (Jvm.Cond.instantiable "SumsThatDiffer$Reading" (4 : Nat)) ∈ TB := tb_in 108 (by decide +kernel) rfl
theorem tw_109 : (Jvm.Cond.methodLinkNest "SumsThatDiffer" (18 : Nat) ({ cls := "SumsThatDiffer$Reading", name := "<init>", desc := "()V" } : Jvm.MethodName) "SumsThatDiffer") ∈ NB := nb_in 109 (by decide +kernel) rfl
theorem tw_110 : (Jvm.Cond.instanceMethod ({ cls := "SumsThatDiffer$Reading", name := "<init>", desc := "()V" } : Jvm.MethodName)) ∈ TB := tb_in 110 (by decide +kernel) rfl
theorem tw_111 : (Jvm.Cond.code ({ cls := "SumsThatDiffer$Reading", name := "<init>", desc := "()V" } : Jvm.MethodName) prog_7_method_1_code (1 : Nat) (Option.none : Option Jvm.ClassFile.FieldType)) ∈ TB := tb_in 111 (by decide +kernel) rfl
theorem tw_213 : (Jvm.Cond.classLink "SumsThatDiffer" (23 : Nat) "SumsThatDiffer$County") ∈ TB := tb_in 213 (by decide +kernel) rfl
theorem tw_214 : (Jvm.Cond.methodLinkNest "SumsThatDiffer" (25 : Nat) ({ cls := "SumsThatDiffer$County", name := "<init>", desc := "()V" } : Jvm.MethodName) "SumsThatDiffer") ∈ NB := nb_in 214 (by decide +kernel) rfl
theorem tw_215 : (Jvm.Cond.classLink "SumsThatDiffer" (30 : Nat) "SumsThatDiffer$Pile") ∈ TB := tb_in 215 (by decide +kernel) rfl
theorem tw_216 : (Jvm.Cond.instantiable "SumsThatDiffer$Pile" (2 : Nat)) ∈ TB := tb_in 216 (by decide +kernel) rfl
theorem tw_217 : (Jvm.Cond.methodLink "SumsThatDiffer" (32 : Nat) ({ cls := "SumsThatDiffer$Pile", name := "<init>", desc := "(I)V" } : Jvm.MethodName)) ∈ TB := tb_in 217 (by decide +kernel) rfl
theorem tw_218 : (Jvm.Cond.instanceMethod ({ cls := "SumsThatDiffer$Pile", name := "<init>", desc := "(I)V" } : Jvm.MethodName)) ∈ TB := tb_in 218 (by decide +kernel) rfl
theorem tw_219 : (Jvm.Cond.code ({ cls := "SumsThatDiffer$Pile", name := "<init>", desc := "(I)V" } : Jvm.MethodName) prog_6_method_1_code (3 : Nat) (Option.none : Option Jvm.ClassFile.FieldType)) ∈ TB := tb_in 219 (by decide +kernel) rfl
theorem tw_231 : (Jvm.Cond.classLink "SumsThatDiffer" (42 : Nat) "SumsThatDiffer$Walker") ∈ TB := tb_in 231 (by decide +kernel) rfl
theorem tw_232 : (Jvm.Cond.instantiable "SumsThatDiffer$Walker" (5 : Nat)) ∈ TB := tb_in 232 (by decide +kernel) rfl
theorem tw_233 : (Jvm.Cond.methodLink "SumsThatDiffer" (44 : Nat) ({ cls := "SumsThatDiffer$Walker", name := "<init>", desc := "(LSumsThatDiffer$County;)V" } : Jvm.MethodName)) ∈ TB := tb_in 233 (by decide +kernel) rfl
theorem tw_234 : (Jvm.Cond.instanceMethod ({ cls := "SumsThatDiffer$Walker", name := "<init>", desc := "(LSumsThatDiffer$County;)V" } : Jvm.MethodName)) ∈ TB := tb_in 234 (by decide +kernel) rfl
theorem tw_235 : (Jvm.Cond.code ({ cls := "SumsThatDiffer$Walker", name := "<init>", desc := "(LSumsThatDiffer$County;)V" } : Jvm.MethodName) prog_11_method_1_code (2 : Nat) (Option.none : Option Jvm.ClassFile.FieldType)) ∈ TB := tb_in 235 (by decide +kernel) rfl
theorem tw_257 : (Jvm.Cond.classLink "SumsThatDiffer" (51 : Nat) "SumsThatDiffer$Climb") ∈ TB := tb_in 257 (by decide +kernel) rfl
theorem tw_258 : (Jvm.Cond.instantiable "SumsThatDiffer$Climb" (6 : Nat)) ∈ TB := tb_in 258 (by decide +kernel) rfl
theorem tw_259 : (Jvm.Cond.methodLink "SumsThatDiffer" (53 : Nat) ({ cls := "SumsThatDiffer$Climb", name := "<init>", desc := "(LSumsThatDiffer$County;)V" } : Jvm.MethodName)) ∈ TB := tb_in 259 (by decide +kernel) rfl
theorem tw_260 : (Jvm.Cond.instanceMethod ({ cls := "SumsThatDiffer$Climb", name := "<init>", desc := "(LSumsThatDiffer$County;)V" } : Jvm.MethodName)) ∈ TB := tb_in 260 (by decide +kernel) rfl
theorem tw_261 : (Jvm.Cond.code ({ cls := "SumsThatDiffer$Climb", name := "<init>", desc := "(LSumsThatDiffer$County;)V" } : Jvm.MethodName) prog_2_method_1_code (2 : Nat) (Option.none : Option Jvm.ClassFile.FieldType)) ∈ TB := tb_in 261 (by decide +kernel) rfl
theorem tw_285 : (Jvm.Cond.classLink "SumsThatDiffer" (58 : Nat) "SumsThatDiffer$Heights") ∈ TB := tb_in 285 (by decide +kernel) rfl
theorem tw_286 : (Jvm.Cond.instantiable "SumsThatDiffer$Heights" (3 : Nat)) ∈ TB := tb_in 286 (by decide +kernel) rfl
theorem tw_287 : (Jvm.Cond.methodLink "SumsThatDiffer" (60 : Nat) ({ cls := "SumsThatDiffer$Heights", name := "<init>", desc := "(LSumsThatDiffer$County;)V" } : Jvm.MethodName)) ∈ TB := tb_in 287 (by decide +kernel) rfl
theorem tw_288 : (Jvm.Cond.instanceMethod ({ cls := "SumsThatDiffer$Heights", name := "<init>", desc := "(LSumsThatDiffer$County;)V" } : Jvm.MethodName)) ∈ TB := tb_in 288 (by decide +kernel) rfl
theorem tw_289 : (Jvm.Cond.code ({ cls := "SumsThatDiffer$Heights", name := "<init>", desc := "(LSumsThatDiffer$County;)V" } : Jvm.MethodName) prog_4_method_1_code (2 : Nat) (Option.none : Option Jvm.ClassFile.FieldType)) ∈ TB := tb_in 289 (by decide +kernel) rfl
theorem tw_301 : (Jvm.Cond.classLink "SumsThatDiffer" (65 : Nat) "SumsThatDiffer$Rings") ∈ TB := tb_in 301 (by decide +kernel) rfl
theorem tw_302 : (Jvm.Cond.instantiable "SumsThatDiffer$Rings" (9 : Nat)) ∈ TB := tb_in 302 (by decide +kernel) rfl
theorem tw_303 : (Jvm.Cond.methodLink "SumsThatDiffer" (67 : Nat) ({ cls := "SumsThatDiffer$Rings", name := "<init>", desc := "(LSumsThatDiffer$County;)V" } : Jvm.MethodName)) ∈ TB := tb_in 303 (by decide +kernel) rfl
theorem tw_304 : (Jvm.Cond.instanceMethod ({ cls := "SumsThatDiffer$Rings", name := "<init>", desc := "(LSumsThatDiffer$County;)V" } : Jvm.MethodName)) ∈ TB := tb_in 304 (by decide +kernel) rfl
theorem tw_305 : (Jvm.Cond.code ({ cls := "SumsThatDiffer$Rings", name := "<init>", desc := "(LSumsThatDiffer$County;)V" } : Jvm.MethodName) prog_8_method_1_code (2 : Nat) (Option.none : Option Jvm.ClassFile.FieldType)) ∈ TB := tb_in 305 (by decide +kernel) rfl
theorem tw_337 : (Jvm.Cond.classLink "SumsThatDiffer" (72 : Nat) "SumsThatDiffer$Told") ∈ TB := tb_in 337 (by decide +kernel) rfl
theorem tw_338 : (Jvm.Cond.instantiable "SumsThatDiffer$Told" (17 : Nat)) ∈ TB := tb_in 338 (by decide +kernel) rfl
theorem tw_339 : (Jvm.Cond.methodLink "SumsThatDiffer" (74 : Nat) ({ cls := "SumsThatDiffer$Told", name := "<init>", desc := "(LSumsThatDiffer$County;)V" } : Jvm.MethodName)) ∈ TB := tb_in 339 (by decide +kernel) rfl
theorem tw_340 : (Jvm.Cond.instanceMethod ({ cls := "SumsThatDiffer$Told", name := "<init>", desc := "(LSumsThatDiffer$County;)V" } : Jvm.MethodName)) ∈ TB := tb_in 340 (by decide +kernel) rfl
theorem tw_341 : (Jvm.Cond.code ({ cls := "SumsThatDiffer$Told", name := "<init>", desc := "(LSumsThatDiffer$County;)V" } : Jvm.MethodName) prog_10_method_1_code (2 : Nat) (Option.none : Option Jvm.ClassFile.FieldType)) ∈ TB := tb_in 341 (by decide +kernel) rfl
theorem tw_398 : (Jvm.Cond.classLink "SumsThatDiffer" (79 : Nat) "SumsThatDiffer$Weather") ∈ TB := tb_in 398 (by decide +kernel) rfl
theorem tw_399 : (Jvm.Cond.instantiable "SumsThatDiffer$Weather" (4 : Nat)) ∈ TB := tb_in 399 (by decide +kernel) rfl
theorem tw_400 : (Jvm.Cond.methodLink "SumsThatDiffer" (81 : Nat) ({ cls := "SumsThatDiffer$Weather", name := "<init>", desc := "(LSumsThatDiffer$County;)V" } : Jvm.MethodName)) ∈ TB := tb_in 400 (by decide +kernel) rfl
theorem tw_401 : (Jvm.Cond.instanceMethod ({ cls := "SumsThatDiffer$Weather", name := "<init>", desc := "(LSumsThatDiffer$County;)V" } : Jvm.MethodName)) ∈ TB := tb_in 401 (by decide +kernel) rfl
theorem tw_402 : (Jvm.Cond.code ({ cls := "SumsThatDiffer$Weather", name := "<init>", desc := "(LSumsThatDiffer$County;)V" } : Jvm.MethodName) prog_12_method_1_code (2 : Nat) (Option.none : Option Jvm.ClassFile.FieldType)) ∈ TB := tb_in 402 (by decide +kernel) rfl
def m_Su_init : MI := (yX11_init, cX11_init, 2, none, { frames := 7, cells := 120, slots := 1200, locals := 163 })
/-! the String parts of the constructor, as operations of their own -/
theorem va_P_kept {D : va_G} {cl : List vw_C} {ws : va_W} {H H1 : Heap} (hP : va_P D cl ws H) (hk : ∀ q : Nat, q < H.size → ¬ H.size ≤ q → H1[q]? = H[q]?) : va_P D cl ws H1 := fun k q h => (hP k q h).kept (hk q.1 (hP k q h).lt (by have := (hP k q h).lt; omega))
def op_slen : Op := fun next _ _ bc bs ls st h => catS st ≤ 8 ∧ next bc bs ls (.inl 82 :: st) h
set_option maxHeartbeats 4000000 in
theorem so_slen {S : Sys} {mi : MI} {pc : Nat} {tg : Nat → Nat} (hc : mi.1.cls = "SumsThatDiffer") (hR : m_Slen.2.2.2.2.frames + 1 ≤ mi.2.2.2.2.frames ∧ 8 + (1 + 11) + m_Slen.2.2.2.2.locals ≤ mi.2.2.2.2.locals) (hd1 : decode mi.2.1 pc = .ok (.ldc 86, 2)) (hd2 : decode mi.2.1 (pc + 2) = .ok (.invokevirtual 88, 3)) : SO S mi pc (pc + 2 + 3) tg op_slen := by
  intro next J Q bc bs ls st h hn hJ hop
  obtain ⟨hcat, hop⟩ := hop
  intro p l e s m args below meth c D cA A H locs cells slots ad ad0 n0 lsc X
  obtain ⟨hC, ⟨hP, hD, hH⟩, hS, hB, hA0, hL, hok, hst⟩ := id X
  obtain ⟨hx, hb, hml, hr, hts, hown, hlk, hK, hAq, hnm, hNB⟩ := id hC
  obtain ⟨aK, aV, hRr, hrecv, hsx⟩ := hNB.2.sx hS hAq
  have hown2 : s.vm.findClass "SumsThatDiffer" = some m.cls := by rw [hc] at hown; exact hown
  have hlink : (Cond.methodLink mi.1.cls 88 y_Slen).before args s = true := by rw [hc]; exact tb_use hts tw_420
  refine va_ldcS hx hb hown2 hRr hd1 ?_
  refine va_calli (A1 := fun q => H.size ≤ q) (va_runV (As := []) (rest := st.map (cv ad)) (n := 0) ⟨hx, hb, hml, hown, hts⟩ (c_Slen l H.size aK aV) ⟨⟨rfl, rfl, hR.1, hR.2, ws_pay (mi' := m_Slen) hts tw_423, List.mem_cons_self, tb_use hts tw_423, tb_use hts tw_76, ⟨by decide, by decide⟩, nPar_len (by decide +kernel), hlink⟩, tb_use hts tw_421, tb_use hts tw_422⟩ ⟨sx_blind, hrecv, fun U hU hW => ⟨rfl, hsx U hU hW⟩⟩ rfl rfl hL.1 rfl (lv_room (by rw [cat_map]; exact hcat)) hd2 ⟨by have := hB.1; omega, by have := hB.2; omega⟩) hS (fun q _ hq => hAq q (Nat.le_trans hS.1 hq)) (fun q hq => hAq q (Nat.le_trans hS.1 hq)) (fun r u t H1 locs1 ht hvm hw hB1 hz1 hk1 hS1 => ?_)
  subst hw
  have := hn _ _ _ _ _ hop p l e s m args below meth c D cA A H1 locs1 (cells + 0) (slots + 0) ad ad0 n0 lsc ⟨hC, ⟨va_P_kept hP hk1, hD, hH⟩, hS1, ⟨by have := hB.1; omega, by have := hB.2; omega⟩, hA0, hL, hok, okS_cons.mpr ⟨by show ok32 82; unfold ok32; omega, hst⟩⟩
  exact this
def op_schr (i : Nat) : Op := fun next _ _ bc bs ls st h => match lg ls i with
  | some (.inl x) => 0 ≤ x ∧ x < 82 ∧ catS st ≤ 8 ∧ next bc bs ls (.inl (FTB.getD x.toNat 0) :: st) h
  | _ => False
theorem ft_at (k : Nat) (hk : k < 82) : Int32.ofInt (k : Int) = nI k ∧ FTL.getD k 0 = Int32.ofInt (FTB.getD k 0) ∧ 32 ≤ FTB.getD k 0 ∧ FTB.getD k 0 ≤ 126 := by
  have h : ∀ k : Fin 82, Int32.ofInt ((k : Nat) : Int) = nI (k : Nat) ∧ FTL.getD (k : Nat) 0 = Int32.ofInt (FTB.getD (k : Nat) 0) ∧ 32 ≤ FTB.getD (k : Nat) 0 ∧ FTB.getD (k : Nat) 0 ≤ 126 := by decide +kernel
  exact h ⟨k, hk⟩
set_option maxHeartbeats 4000000 in
theorem so_schr {S : Sys} {mi : MI} {pc i : Nat} {k : Fin 4} {tg : Nat → Nat} (hc : mi.1.cls = "SumsThatDiffer") (hR : m_Schr.2.2.2.2.frames + 1 ≤ mi.2.2.2.2.frames ∧ 8 + (2 + 11) + m_Schr.2.2.2.2.locals ≤ mi.2.2.2.2.locals) (hd1 : decode mi.2.1 pc = .ok (.ldc 86, 2)) (hki : (k : Nat) = i) (hd2 : decode mi.2.1 (pc + 2) = .ok (.iload_n k, 1)) (hd3 : decode mi.2.1 (pc + 2 + 1) = .ok (.invokevirtual 94, 3)) : SO S mi pc (pc + 2 + 1 + 3) tg (op_schr i) := by
  intro next J Q bc bs ls st h hn hJ hop
  unfold op_schr at hop
  split at hop
  · rename_i x hx0
    obtain ⟨x0, x1, hcat, hop⟩ := hop
    intro p l e s m args below meth c D cA A H locs cells slots ad ad0 n0 lsc X
    obtain ⟨hC, ⟨hP, hD, hH⟩, hS, hB, hA0, hL, hok, hst⟩ := id X
    obtain ⟨hx, hb, hml, hr, hts, hown, hlk, hK, hAq, hnm, hNB⟩ := id hC
    obtain ⟨aK, aV, hRr, hrecv, hsx⟩ := hNB.2.sx hS hAq
    obtain ⟨n, rfl⟩ := Int.eq_ofNat_of_zero_le x0
    obtain ⟨f1, f2, f3, f4⟩ := ft_at n (by omega)
    have hown2 : s.vm.findClass "SumsThatDiffer" = some m.cls := by rw [hc] at hown; exact hown
    have hlink : (Cond.methodLink mi.1.cls 94 y_Schr).before args s = true := by rw [hc]; exact tb_use hts tw_430
    have hloc : lsc[i]? = some (.val (.int (nI n))) := by have := hL.2.2 i _ hx0; rw [← f1]; exact this
    refine va_ldcS hx hb hown2 hRr hd1 ?_
    refine lv_iload_n hx hb hd2 hki hloc ?_
    refine va_calli (A1 := fun q => H.size ≤ q) (va_runV (As := [.int (nI n)]) (rest := st.map (cv ad)) (n := 1) ⟨hx, hb, hml, hown, hts⟩ (c_Schr l H.size aK aV n (by omega)) ⟨⟨rfl, rfl, hR.1, hR.2, ws_pay (mi' := m_Schr) hts tw_433, List.mem_cons_self, tb_use hts tw_433, tb_use hts tw_76, ⟨by decide, by decide⟩, nPar_len (by decide +kernel), hlink⟩, tb_use hts tw_431, tb_use hts tw_432⟩ ⟨sx_blind, hrecv, fun U hU hW => ⟨rfl, hsx U hU hW⟩⟩ rfl rfl hL.1 rfl (lv_room (by rw [cat_map]; exact hcat)) hd3 ⟨by have := hB.1; omega, by have := hB.2; omega⟩) hS (fun q _ hq => hAq q (Nat.le_trans hS.1 hq)) (fun q hq => hAq q (Nat.le_trans hS.1 hq)) (fun r u t H1 locs1 ht hvm hw hB1 hz1 hk1 hS1 => ?_)
    subst hw
    have := hn _ _ _ _ _ hop p l e s m args below meth c D cA A H1 locs1 (cells + 0) (slots + 0) ad ad0 n0 lsc ⟨hC, ⟨va_P_kept hP hk1, hD, hH⟩, hS1, ⟨by have := hB.1; omega, by have := hB.2; omega⟩, hA0, hL, hok, okS_cons.mpr ⟨by show ok32 _; unfold ok32; rw [Int.toNat_natCast]; omega, hst⟩⟩
    rw [List.map_cons] at this
    have e : cv ad (.inl (FTB.getD ((n : Int).toNat) 0)) = .int (FTL.getD n 0) := by rw [Int.toNat_natCast, f2]; rfl
    rw [e] at this
    exact this
  · exact hop.elim
def c_Su_init : List (List Op) := [
  [op_aload 0, op_oinit, op_aload 0, op_new SC 3 2, op_dup, op_invI SC m_Le_init 0, op_putr SC 11 0, op_aload 0, op_new SC 5 4, op_dup, op_invI SC m_Re_init 0, op_putr SC 11 1, op_aload 0, op_new SC 1 8, op_dup, op_invI SC m_Co_init 0, op_putr SC 11 2, op_aload 0, op_new SC 4 2, op_dup, op_ci (8), op_invI SC m_Pi_init 1, op_putr SC 11 3, op_aload 0, op_new SC 4 2, op_dup, op_ci (2), op_invI SC m_Pi_init 1, op_putr SC 11 4, op_aload 0, op_new SC 9 5, op_dup, op_aload 0, op_getr SC 11 2, op_invI SC m_Wa_init 1, op_putr SC 11 5, op_aload 0, op_new SC 0 6, op_dup, op_aload 0, op_getr SC 11 2, op_invI SC m_Cl_init 1, op_putr SC 11 6, op_aload 0, op_new SC 2 3, op_dup, op_aload 0, op_getr SC 11 2, op_invI SC m_He_init 1, op_putr SC 11 7, op_aload 0, op_new SC 6 9, op_dup, op_aload 0, op_getr SC 11 2, op_invI SC m_Ri_init 1, op_putr SC 11 8, op_aload 0, op_new SC 8 17, op_dup, op_aload 0, op_getr SC 11 2, op_invI SC m_To_init 1, op_putr SC 11 9, op_aload 0, op_new SC 10 4, op_dup, op_aload 0, op_getr SC 11 2, op_invI SC m_We_init 1, op_putr SC 11 10, op_ci (0), op_istore 1, op_goto 1],
  [op_iload 1, op_slen, op_icge 2, op_aload 0, op_getr SC 11 0, op_schr 1, op_invV SC m_Le_append 3 1, op_pop, op_iinc 1 (1), op_goto 1],
  [op_aload 0, op_invV SC m_Su_layLetters 11 0, op_pop, op_aload 0, op_getr SC 11 0, op_invV SC m_Le_clear 3 0, op_ret]]
def t_Su_init : Nat → Nat := fun t => [0, 154, 183].getD t 0
set_option maxRecDepth 100000 in
theorem ok_Su_init : MOK SC m_Su_init c_Su_init t_Su_init := fun t => match t with
  | 0 => ⟨_, so_aload_n (i := 0) (k := 0) (by decide +kernel) rfl,
    ⟨_, so_oinit (index := 1) tw_90 tw_91 tw_92 (by decide +kernel) (by decide +kernel),
    ⟨_, so_aload_n (i := 0) (k := 0) (by decide +kernel) rfl,
    ⟨_, so_new (ci := 3) (index := 7) CF_3 (by decide +kernel) tw_93 tw_94 tw_65 (by decide +kernel),
    ⟨_, so_dup (by decide +kernel),
    ⟨_, so_invIN (mi' := m_Le_init) (n := 0) (index := 9) tw_96 rfl rfl ⟨tw_97, tw_65, ⟨by decide +kernel, by decide +kernel, by decide +kernel⟩, by decide +kernel⟩ tw_95 (by decide +kernel),
    ⟨_, so_putrF (ci := 11) (k := 0) (index := 10) rfl CF_11 (by decide +kernel) (Or.inl ⟨_, rfl⟩) tw_565 rfl rfl rfl rfl (by decide +kernel),
    ⟨_, so_aload_n (i := 0) (k := 0) (by decide +kernel) rfl,
    ⟨_, so_new (ci := 5) (index := 16) CF_5 (by decide +kernel) tw_107 tw_108 tw_66 (by decide +kernel),
    ⟨_, so_dup (by decide +kernel),
    ⟨_, so_invIN (mi' := m_Re_init) (n := 0) (index := 18) tw_110 rfl rfl ⟨tw_111, tw_66, ⟨by decide +kernel, by decide +kernel, by decide +kernel⟩, by decide +kernel⟩ tw_109 (by decide +kernel),
    ⟨_, so_putrF (ci := 11) (k := 1) (index := 19) rfl CF_11 (by decide +kernel) (Or.inl ⟨_, rfl⟩) tw_566 rfl rfl rfl rfl (by decide +kernel),
    ⟨_, so_aload_n (i := 0) (k := 0) (by decide +kernel) rfl,
    ⟨_, so_new (ci := 1) (index := 23) CF_1 (by decide +kernel) tw_213 tw_114 tw_67 (by decide +kernel),
    ⟨_, so_dup (by decide +kernel),
    ⟨_, so_invIN (mi' := m_Co_init) (n := 0) (index := 25) tw_116 rfl rfl ⟨tw_117, tw_67, ⟨by decide +kernel, by decide +kernel, by decide +kernel⟩, by decide +kernel⟩ tw_214 (by decide +kernel),
    ⟨_, so_putrF (ci := 11) (k := 2) (index := 26) rfl CF_11 (by decide +kernel) (Or.inl ⟨_, rfl⟩) tw_567 rfl rfl rfl rfl (by decide +kernel),
    ⟨_, so_aload_n (i := 0) (k := 0) (by decide +kernel) rfl,
    ⟨_, so_new (ci := 4) (index := 30) CF_4 (by decide +kernel) tw_215 tw_216 tw_69 (by decide +kernel),
    ⟨_, so_dup (by decide +kernel),
    ⟨_, so_bipush (n := (8)) (by decide +kernel) (by decide +kernel) ⟨by decide, by decide⟩,
    ⟨_, so_invI (mi' := m_Pi_init) (n := 1) (index := 32) tw_218 rfl rfl ⟨tw_219, tw_69, ⟨by decide +kernel, by decide +kernel, by decide +kernel⟩, by decide +kernel⟩ tw_217 (by decide +kernel),
    ⟨_, so_putrF (ci := 11) (k := 3) (index := 35) rfl CF_11 (by decide +kernel) (Or.inl ⟨_, rfl⟩) tw_568 rfl rfl rfl rfl (by decide +kernel),
    ⟨_, so_aload_n (i := 0) (k := 0) (by decide +kernel) rfl,
    ⟨_, so_new (ci := 4) (index := 30) CF_4 (by decide +kernel) tw_215 tw_216 tw_69 (by decide +kernel),
    ⟨_, so_dup (by decide +kernel),
    ⟨_, so_iconst (n := (2)) (by decide +kernel) ⟨by decide, by decide⟩,
    ⟨_, so_invI (mi' := m_Pi_init) (n := 1) (index := 32) tw_218 rfl rfl ⟨tw_219, tw_69, ⟨by decide +kernel, by decide +kernel, by decide +kernel⟩, by decide +kernel⟩ tw_217 (by decide +kernel),
    ⟨_, so_putrF (ci := 11) (k := 4) (index := 39) rfl CF_11 (by decide +kernel) (Or.inl ⟨_, rfl⟩) tw_569 rfl rfl rfl rfl (by decide +kernel),
    ⟨_, so_aload_n (i := 0) (k := 0) (by decide +kernel) rfl,
    ⟨_, so_new (ci := 9) (index := 42) CF_9 (by decide +kernel) tw_231 tw_232 tw_70 (by decide +kernel),
    ⟨_, so_dup (by decide +kernel),
    ⟨_, so_aload_n (i := 0) (k := 0) (by decide +kernel) rfl,
    ⟨_, so_getr (ci := 11) (k := 2) (index := 26) rfl CF_11 (by decide +kernel) (fun _ _ _ => rfl) tw_567 rfl (by decide +kernel),
    ⟨_, so_invI (mi' := m_Wa_init) (n := 1) (index := 44) tw_234 rfl rfl ⟨tw_235, tw_70, ⟨by decide +kernel, by decide +kernel, by decide +kernel⟩, by decide +kernel⟩ tw_233 (by decide +kernel),
    ⟨_, so_putrF (ci := 11) (k := 5) (index := 47) rfl CF_11 (by decide +kernel) (Or.inl ⟨_, rfl⟩) tw_570 rfl rfl rfl rfl (by decide +kernel),
    ⟨_, so_aload_n (i := 0) (k := 0) (by decide +kernel) rfl,
    ⟨_, so_new (ci := 0) (index := 51) CF_0 (by decide +kernel) tw_257 tw_258 tw_71 (by decide +kernel),
    ⟨_, so_dup (by decide +kernel),
    ⟨_, so_aload_n (i := 0) (k := 0) (by decide +kernel) rfl,
    ⟨_, so_getr (ci := 11) (k := 2) (index := 26) rfl CF_11 (by decide +kernel) (fun _ _ _ => rfl) tw_567 rfl (by decide +kernel),
    ⟨_, so_invI (mi' := m_Cl_init) (n := 1) (index := 53) tw_260 rfl rfl ⟨tw_261, tw_71, ⟨by decide +kernel, by decide +kernel, by decide +kernel⟩, by decide +kernel⟩ tw_259 (by decide +kernel),
    ⟨_, so_putrF (ci := 11) (k := 6) (index := 54) rfl CF_11 (by decide +kernel) (Or.inl ⟨_, rfl⟩) tw_571 rfl rfl rfl rfl (by decide +kernel),
    ⟨_, so_aload_n (i := 0) (k := 0) (by decide +kernel) rfl,
    ⟨_, so_new (ci := 2) (index := 58) CF_2 (by decide +kernel) tw_285 tw_286 tw_72 (by decide +kernel),
    ⟨_, so_dup (by decide +kernel),
    ⟨_, so_aload_n (i := 0) (k := 0) (by decide +kernel) rfl,
    ⟨_, so_getr (ci := 11) (k := 2) (index := 26) rfl CF_11 (by decide +kernel) (fun _ _ _ => rfl) tw_567 rfl (by decide +kernel),
    ⟨_, so_invI (mi' := m_He_init) (n := 1) (index := 60) tw_288 rfl rfl ⟨tw_289, tw_72, ⟨by decide +kernel, by decide +kernel, by decide +kernel⟩, by decide +kernel⟩ tw_287 (by decide +kernel),
    ⟨_, so_putrF (ci := 11) (k := 7) (index := 61) rfl CF_11 (by decide +kernel) (Or.inl ⟨_, rfl⟩) tw_572 rfl rfl rfl rfl (by decide +kernel),
    ⟨_, so_aload_n (i := 0) (k := 0) (by decide +kernel) rfl,
    ⟨_, so_new (ci := 6) (index := 65) CF_6 (by decide +kernel) tw_301 tw_302 tw_73 (by decide +kernel),
    ⟨_, so_dup (by decide +kernel),
    ⟨_, so_aload_n (i := 0) (k := 0) (by decide +kernel) rfl,
    ⟨_, so_getr (ci := 11) (k := 2) (index := 26) rfl CF_11 (by decide +kernel) (fun _ _ _ => rfl) tw_567 rfl (by decide +kernel),
    ⟨_, so_invI (mi' := m_Ri_init) (n := 1) (index := 67) tw_304 rfl rfl ⟨tw_305, tw_73, ⟨by decide +kernel, by decide +kernel, by decide +kernel⟩, by decide +kernel⟩ tw_303 (by decide +kernel),
    ⟨_, so_putrF (ci := 11) (k := 8) (index := 68) rfl CF_11 (by decide +kernel) (Or.inl ⟨_, rfl⟩) tw_573 rfl rfl rfl rfl (by decide +kernel),
    ⟨_, so_aload_n (i := 0) (k := 0) (by decide +kernel) rfl,
    ⟨_, so_new (ci := 8) (index := 72) CF_8 (by decide +kernel) tw_337 tw_338 tw_74 (by decide +kernel),
    ⟨_, so_dup (by decide +kernel),
    ⟨_, so_aload_n (i := 0) (k := 0) (by decide +kernel) rfl,
    ⟨_, so_getr (ci := 11) (k := 2) (index := 26) rfl CF_11 (by decide +kernel) (fun _ _ _ => rfl) tw_567 rfl (by decide +kernel),
    ⟨_, so_invI (mi' := m_To_init) (n := 1) (index := 74) tw_340 rfl rfl ⟨tw_341, tw_74, ⟨by decide +kernel, by decide +kernel, by decide +kernel⟩, by decide +kernel⟩ tw_339 (by decide +kernel),
    ⟨_, so_putrF (ci := 11) (k := 9) (index := 75) rfl CF_11 (by decide +kernel) (Or.inl ⟨_, rfl⟩) tw_574 rfl rfl rfl rfl (by decide +kernel),
    ⟨_, so_aload_n (i := 0) (k := 0) (by decide +kernel) rfl,
    ⟨_, so_new (ci := 10) (index := 79) CF_10 (by decide +kernel) tw_398 tw_399 tw_75 (by decide +kernel),
    ⟨_, so_dup (by decide +kernel),
    ⟨_, so_aload_n (i := 0) (k := 0) (by decide +kernel) rfl,
    ⟨_, so_getr (ci := 11) (k := 2) (index := 26) rfl CF_11 (by decide +kernel) (fun _ _ _ => rfl) tw_567 rfl (by decide +kernel),
    ⟨_, so_invI (mi' := m_We_init) (n := 1) (index := 81) tw_401 rfl rfl ⟨tw_402, tw_75, ⟨by decide +kernel, by decide +kernel, by decide +kernel⟩, by decide +kernel⟩ tw_400 (by decide +kernel),
    ⟨_, so_putrF (ci := 11) (k := 10) (index := 82) rfl CF_11 (by decide +kernel) (Or.inl ⟨_, rfl⟩) tw_575 rfl rfl rfl rfl (by decide +kernel),
    ⟨_, so_iconst (n := (0)) (by decide +kernel) ⟨by decide, by decide⟩,
    ⟨_, so_istore_n (i := 1) (k := 1) (by decide +kernel) rfl (by decide +kernel),
    ⟨_, so_fall (pc' := 0) (t := 1) rfl,
    trivial⟩⟩⟩⟩⟩⟩⟩⟩⟩⟩⟩⟩⟩⟩⟩⟩⟩⟩⟩⟩⟩⟩⟩⟩⟩⟩⟩⟩⟩⟩⟩⟩⟩⟩⟩⟩⟩⟩⟩⟩⟩⟩⟩⟩⟩⟩⟩⟩⟩⟩⟩⟩⟩⟩⟩⟩⟩⟩⟩⟩⟩⟩⟩⟩⟩⟩⟩⟩⟩⟩⟩⟩⟩⟩
  | 1 => ⟨_, so_iload_n (i := 1) (k := 1) (by decide +kernel) rfl,
    ⟨_, so_slen (mi := m_Su_init) rfl (by decide +kernel) (by decide +kernel) (by decide +kernel),
    ⟨_, so_icge (t := 2) (off := 23) (by decide +kernel) rfl,
    ⟨_, so_aload_n (i := 0) (k := 0) (by decide +kernel) rfl,
    ⟨_, so_getr (ci := 11) (k := 0) (index := 10) rfl CF_11 (by decide +kernel) (fun _ _ _ => rfl) tw_565 rfl (by decide +kernel),
    ⟨_, so_schr (mi := m_Su_init) (i := 1) (k := 1) rfl (by decide +kernel) (by decide +kernel) rfl (by decide +kernel) (by decide +kernel),
    ⟨_, so_invV (mi' := m_Le_append) (ci := 3) (n := 1) (index := 98) rfl rfl tw_469 tw_470 ⟨tw_471, tw_65, ⟨by decide +kernel, by decide +kernel, by decide +kernel⟩, by decide +kernel⟩ tw_468 (by decide +kernel),
    ⟨_, so_pop (by decide +kernel),
    ⟨_, so_iinc (i := 1) (n := 1) (by decide +kernel) (by decide +kernel),
    ⟨_, so_goto (pc' := 0) (t := 1) (off := -26) (by decide +kernel) rfl,
    trivial⟩⟩⟩⟩⟩⟩⟩⟩⟩⟩
  | 2 => ⟨_, so_aload_n (i := 0) (k := 0) (by decide +kernel) rfl,
    ⟨_, so_invV (mi' := m_Su_layLetters) (ci := 11) (n := 0) (index := 102) rfl rfl tw_474 tw_0 ⟨tw_475, tw_64, ⟨by decide +kernel, by decide +kernel, by decide +kernel⟩, by decide +kernel⟩ tw_472 (by decide +kernel),
    ⟨_, so_pop (by decide +kernel),
    ⟨_, so_aload_n (i := 0) (k := 0) (by decide +kernel) rfl,
    ⟨_, so_getr (ci := 11) (k := 0) (index := 10) rfl CF_11 (by decide +kernel) (fun _ _ _ => rfl) tw_565 rfl (by decide +kernel),
    ⟨_, so_invV (mi' := m_Le_clear) (ci := 3) (n := 0) (index := 106) rfl rfl tw_562 tw_563 ⟨tw_564, tw_65, ⟨by decide +kernel, by decide +kernel, by decide +kernel⟩, by decide +kernel⟩ tw_561 (by decide +kernel),
    ⟨_, so_ret (pc' := 0) rfl (by decide +kernel),
    trivial⟩⟩⟩⟩⟩⟩⟩
  | _ + 3 => trivial
theorem mc_Su_init : mcM m_Su_init = 120 := rfl
theorem ms_Su_init : msM m_Su_init = 1200 := rfl
