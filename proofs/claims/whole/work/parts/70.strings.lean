/-! STRING CONSTANTS: length, charAt -/
theorem tw_76 : (Cond.initialized "java/lang/String") ∈ TB := tb_in 76 (by decide +kernel) rfl
theorem tw_77 : (Cond.initialized "java/lang/StringLatin1") ∈ TB := tb_in 77 (by decide +kernel) rfl
theorem tw_78 : (Cond.initialized "jdk/internal/util/Preconditions") ∈ TB := tb_in 78 (by decide +kernel) rfl
def y_Slen : MethodName := ⟨"java/lang/String", "length", "()I"⟩
def y_Scod : MethodName := ⟨"java/lang/String", "coder", "()B"⟩
def y_Schr : MethodName := ⟨"java/lang/String", "charAt", "(I)C"⟩
def y_Sisl : MethodName := ⟨"java/lang/String", "isLatin1", "()Z"⟩
def y_Lchr : MethodName := ⟨"java/lang/StringLatin1", "charAt", "([BI)C"⟩
def y_Schk : MethodName := ⟨"java/lang/String", "checkIndex", "(II)V"⟩
def y_Pchk : MethodName := ⟨"jdk/internal/util/Preconditions", "checkIndex", "(IILjava/util/function/BiFunction;)I"⟩
def m_Scod : MI := (y_Scod, prog_17_method_152_code, 1, some .byte, { frames := 0, cells := 0, slots := 0, locals := 0 })
def m_Sisl : MI := (y_Sisl, prog_17_method_154_code, 1, some .boolean, { frames := 0, cells := 0, slots := 0, locals := 0 })
def m_Pchk : MI := (y_Pchk, prog_22_method_11_code, 3, some .int, { frames := 0, cells := 0, slots := 0, locals := 0 })
def m_Slen : MI := (y_Slen, prog_17_method_54_code, 1, some .int, { frames := 1, cells := 0, slots := 0, locals := 20 })
def m_Schk : MI := (y_Schk, prog_17_method_155_code, 2, none, { frames := 1, cells := 0, slots := 0, locals := 22 })
def m_Lchr : MI := (y_Lchr, prog_18_method_2_code, 2, some .char, { frames := 2, cells := 0, slots := 0, locals := 43 })
def m_Schr : MI := (y_Schr, prog_17_method_56_code, 2, some .char, { frames := 3, cells := 0, slots := 0, locals := 64 })
theorem ln_419 : (Cond.stringRef "SumsThatDiffer" 86 FTX) ∈ lw_tbl := List.mem_of_getElem? (i := 419) (by decide +kernel)
theorem tw_420 : (Cond.methodLink "SumsThatDiffer" 88 y_Slen) ∈ TB := tb_in 420 (by decide +kernel) rfl
theorem tw_421 : (Cond.instanceMethod y_Slen) ∈ TB := tb_in 421 (by decide +kernel) rfl
theorem tw_422 : (Cond.selects "java/lang/String" y_Slen y_Slen) ∈ TB := tb_in 422 (by decide +kernel) rfl
theorem tw_423 : (Cond.code y_Slen prog_17_method_54_code 1 (some .int)) ∈ TB := tb_in 423 (by decide +kernel) rfl
theorem tw_424 : (Cond.methodLink "java/lang/String" 335 y_Scod) ∈ TB := tb_in 424 (by decide +kernel) rfl
theorem tw_425 : (Cond.instanceMethod y_Scod) ∈ TB := tb_in 425 (by decide +kernel) rfl
theorem tw_426 : (Cond.selects "java/lang/String" y_Scod y_Scod) ∈ TB := tb_in 426 (by decide +kernel) rfl
theorem tw_427 : (Cond.code y_Scod prog_17_method_152_code 1 (some .byte)) ∈ TB := tb_in 427 (by decide +kernel) rfl
theorem tw_428 : (Cond.fieldLink "java/lang/String" 38 "java/lang/String" "COMPACT_STRINGS" "Z") ∈ TB := tb_in 428 (by decide +kernel) rfl
theorem tw_430 : (Cond.methodLink "SumsThatDiffer" 94 y_Schr) ∈ TB := tb_in 430 (by decide +kernel) rfl
theorem tw_431 : (Cond.instanceMethod y_Schr) ∈ TB := tb_in 431 (by decide +kernel) rfl
theorem tw_432 : (Cond.selects "java/lang/String" y_Schr y_Schr) ∈ TB := tb_in 432 (by decide +kernel) rfl
theorem tw_433 : (Cond.code y_Schr prog_17_method_56_code 2 (some .char)) ∈ TB := tb_in 433 (by decide +kernel) rfl
theorem tw_434 : (Cond.methodLink "java/lang/String" 492 y_Sisl) ∈ TB := tb_in 434 (by decide +kernel) rfl
theorem tw_435 : (Cond.instanceMethod y_Sisl) ∈ TB := tb_in 435 (by decide +kernel) rfl
theorem tw_436 : (Cond.selects "java/lang/String" y_Sisl y_Sisl) ∈ TB := tb_in 436 (by decide +kernel) rfl
theorem tw_437 : (Cond.code y_Sisl prog_17_method_154_code 1 (some .boolean)) ∈ TB := tb_in 437 (by decide +kernel) rfl
theorem tw_438 : (Cond.methodLink "java/lang/String" 495 y_Lchr) ∈ TB := tb_in 438 (by decide +kernel) rfl
theorem tw_439 : (Cond.static y_Lchr) ∈ TB := tb_in 439 (by decide +kernel) rfl
theorem tw_440 : (Cond.code y_Lchr prog_18_method_2_code 2 (some .char)) ∈ TB := tb_in 440 (by decide +kernel) rfl
theorem tw_441 : (Cond.methodLink "java/lang/StringLatin1" 9 y_Schk) ∈ TB := tb_in 441 (by decide +kernel) rfl
theorem tw_442 : (Cond.static y_Schk) ∈ TB := tb_in 442 (by decide +kernel) rfl
theorem tw_443 : (Cond.code y_Schk prog_17_method_155_code 2 none) ∈ TB := tb_in 443 (by decide +kernel) rfl
theorem tw_444 : (Cond.fieldLink "java/lang/String" 1053 "jdk/internal/util/Preconditions" "SIOOBE_FORMATTER" "Ljava/util/function/BiFunction;") ∈ TB := tb_in 444 (by decide +kernel) rfl
theorem tw_446 : (Cond.methodLink "java/lang/String" 1059 y_Pchk) ∈ TB := tb_in 446 (by decide +kernel) rfl
theorem tw_447 : (Cond.static y_Pchk) ∈ TB := tb_in 447 (by decide +kernel) rfl
theorem tw_448 : (Cond.code y_Pchk prog_22_method_11_code 3 (some .int)) ∈ TB := tb_in 448 (by decide +kernel) rfl
theorem tw_1425 : (Cond.fieldLink "java/lang/String" 9 "java/lang/String" "value" "[B") ∈ TB := tb_in 1425 (by decide +kernel) rfl
theorem tw_1426 : (Cond.fieldLink "java/lang/String" 15 "java/lang/String" "coder" "B") ∈ TB := tb_in 1426 (by decide +kernel) rfl
theorem dS_cod_0 : decode prog_17_method_152_code 0 = .ok (.getstatic 38, 3) := by decide +kernel
theorem dS_cod_3 : decode prog_17_method_152_code 3 = .ok (.ifCond .eq 10, 3) := by decide +kernel
theorem dS_cod_6 : decode prog_17_method_152_code 6 = .ok (.aload_n 0, 1) := by decide +kernel
theorem dS_cod_7 : decode prog_17_method_152_code 7 = .ok (.getfield 15, 3) := by decide +kernel
theorem dS_cod_10 : decode prog_17_method_152_code 10 = .ok (.goto 4, 3) := by decide +kernel
theorem dS_cod_14 : decode prog_17_method_152_code 14 = .ok (.ireturn, 1) := by decide +kernel
theorem dS_isl_0 : decode prog_17_method_154_code 0 = .ok (.getstatic 38, 3) := by decide +kernel
theorem dS_isl_3 : decode prog_17_method_154_code 3 = .ok (.ifCond .eq 14, 3) := by decide +kernel
theorem dS_isl_6 : decode prog_17_method_154_code 6 = .ok (.aload_n 0, 1) := by decide +kernel
theorem dS_isl_7 : decode prog_17_method_154_code 7 = .ok (.getfield 15, 3) := by decide +kernel
theorem dS_isl_10 : decode prog_17_method_154_code 10 = .ok (.ifCond .ne 7, 3) := by decide +kernel
theorem dS_isl_13 : decode prog_17_method_154_code 13 = .ok (.iconst 1, 1) := by decide +kernel
theorem dS_isl_14 : decode prog_17_method_154_code 14 = .ok (.goto 4, 3) := by decide +kernel
theorem dS_isl_18 : decode prog_17_method_154_code 18 = .ok (.ireturn, 1) := by decide +kernel
theorem dS_pck_0 : decode prog_22_method_11_code 0 = .ok (.iload_n 0, 1) := by decide +kernel
theorem dS_pck_1 : decode prog_22_method_11_code 1 = .ok (.ifCond .lt 8, 3) := by decide +kernel
theorem dS_pck_4 : decode prog_22_method_11_code 4 = .ok (.iload_n 0, 1) := by decide +kernel
theorem dS_pck_5 : decode prog_22_method_11_code 5 = .ok (.iload_n 1, 1) := by decide +kernel
theorem dS_pck_6 : decode prog_22_method_11_code 6 = .ok (.if_icmp .lt 10, 3) := by decide +kernel
theorem dS_pck_16 : decode prog_22_method_11_code 16 = .ok (.iload_n 0, 1) := by decide +kernel
theorem dS_pck_17 : decode prog_22_method_11_code 17 = .ok (.ireturn, 1) := by decide +kernel
theorem dS_chk_0 : decode prog_17_method_155_code 0 = .ok (.iload_n 0, 1) := by decide +kernel
theorem dS_chk_1 : decode prog_17_method_155_code 1 = .ok (.iload_n 1, 1) := by decide +kernel
theorem dS_chk_2 : decode prog_17_method_155_code 2 = .ok (.getstatic 1053, 3) := by decide +kernel
theorem dS_chk_5 : decode prog_17_method_155_code 5 = .ok (.invokestatic 1059, 3) := by decide +kernel
theorem dS_chk_8 : decode prog_17_method_155_code 8 = .ok (.pop, 1) := by decide +kernel
theorem dS_chk_9 : decode prog_17_method_155_code 9 = .ok (.return_, 1) := by decide +kernel
theorem dS_len_0 : decode prog_17_method_54_code 0 = .ok (.aload_n 0, 1) := by decide +kernel
theorem dS_len_1 : decode prog_17_method_54_code 1 = .ok (.getfield 9, 3) := by decide +kernel
theorem dS_len_4 : decode prog_17_method_54_code 4 = .ok (.arraylength, 1) := by decide +kernel
theorem dS_len_5 : decode prog_17_method_54_code 5 = .ok (.aload_n 0, 1) := by decide +kernel
theorem dS_len_6 : decode prog_17_method_54_code 6 = .ok (.invokevirtual 335, 3) := by decide +kernel
theorem dS_len_9 : decode prog_17_method_54_code 9 = .ok (.ishr, 1) := by decide +kernel
theorem dS_len_10 : decode prog_17_method_54_code 10 = .ok (.ireturn, 1) := by decide +kernel
theorem dS_lch_0 : decode prog_18_method_2_code 0 = .ok (.iload_n 1, 1) := by decide +kernel
theorem dS_lch_1 : decode prog_18_method_2_code 1 = .ok (.aload_n 0, 1) := by decide +kernel
theorem dS_lch_2 : decode prog_18_method_2_code 2 = .ok (.arraylength, 1) := by decide +kernel
theorem dS_lch_3 : decode prog_18_method_2_code 3 = .ok (.invokestatic 9, 3) := by decide +kernel
theorem dS_lch_6 : decode prog_18_method_2_code 6 = .ok (.aload_n 0, 1) := by decide +kernel
theorem dS_lch_7 : decode prog_18_method_2_code 7 = .ok (.iload_n 1, 1) := by decide +kernel
theorem dS_lch_8 : decode prog_18_method_2_code 8 = .ok (.baload, 1) := by decide +kernel
theorem dS_lch_9 : decode prog_18_method_2_code 9 = .ok (.sipush 255, 3) := by decide +kernel
theorem dS_lch_12 : decode prog_18_method_2_code 12 = .ok (.iand, 1) := by decide +kernel
theorem dS_lch_13 : decode prog_18_method_2_code 13 = .ok (.i2c, 1) := by decide +kernel
theorem dS_lch_14 : decode prog_18_method_2_code 14 = .ok (.ireturn, 1) := by decide +kernel
theorem dS_chr_0 : decode prog_17_method_56_code 0 = .ok (.aload_n 0, 1) := by decide +kernel
theorem dS_chr_1 : decode prog_17_method_56_code 1 = .ok (.invokevirtual 492, 3) := by decide +kernel
theorem dS_chr_4 : decode prog_17_method_56_code 4 = .ok (.ifCond .eq 12, 3) := by decide +kernel
theorem dS_chr_7 : decode prog_17_method_56_code 7 = .ok (.aload_n 0, 1) := by decide +kernel
theorem dS_chr_8 : decode prog_17_method_56_code 8 = .ok (.getfield 9, 3) := by decide +kernel
theorem dS_chr_11 : decode prog_17_method_56_code 11 = .ok (.iload_n 1, 1) := by decide +kernel
theorem dS_chr_12 : decode prog_17_method_56_code 12 = .ok (.invokestatic 495, 3) := by decide +kernel
theorem dS_chr_15 : decode prog_17_method_56_code 15 = .ok (.ireturn, 1) := by decide +kernel
/-- what the String methods look at -/
def SX (sz aK aV : Nat) (U : State) : Prop := U.heap.size = sz ∧ vk_S 1 [82] [FTL] (fun _ => aK) (fun _ => aV) (fun q => sz ≤ q) U U.heap ∧ va_Z "java/lang/String" "COMPACT_STRINGS" "Z" (.int 1) (fun q => sz ≤ q) U U.heap ∧ va_Zq "jdk/internal/util/Preconditions" "SIOOBE_FORMATTER" "Ljava/util/function/BiFunction;" (fun q => sz ≤ q) U U.heap
theorem SX.go {sz aK aV : Nat} {s U : State} {H : Heap} {locs : List Loc} (h : SX s.heap.size aK aV s) (hS : va_S (fun q => s.heap.size ≤ q) s.heap H locs) (hW : s.WarmedH U.vm) (hU : U.heap = H) (hz : sz = H.size) : SX sz aK aV U := by
  subst hz
  obtain ⟨-, h2, h3, h4⟩ := h
  have hn : ∀ q : Nat, H.size ≤ q → s.heap.size ≤ q := fun q hq => Nat.le_trans hS.1 hq
  refine ⟨by rw [hU], ?_, ?_, ?_⟩ <;> rw [hU]
  · exact ((h2.kept hS.2.1).narrow hn).moved hW.alike
  · exact ((h3.kept hS.2.1).narrow hn).moved hW.alike
  · exact ((h4.kept hS.2.1).narrow hn).moved hW.alike
theorem XS.sx {A : Nat → Prop} {s : State} {H : Heap} {locs : List Loc} (h : XS A s s.heap) (hS : va_S A s.heap H locs) (hAq : ∀ q, s.heap.size ≤ q → A q) : ∃ aK aV : Nat, vk_R "SumsThatDiffer" 86 FTX aK s ∧ (∃ cell : Cell, H[aK]? = some cell ∧ cell.vm.isStatics = false ∧ s.vm.findClass "java/lang/String" = some cell.cls) ∧ ∀ U : State, U.heap = H → s.WarmedH U.vm → SX H.size aK aV U := by
  obtain ⟨aK, aV, h1, h2, h3, h4⟩ := h
  have hn : ∀ q : Nat, H.size ≤ q → A q := fun q hq => hAq q (Nat.le_trans hS.1 hq)
  refine ⟨aK, aV, h1, vk_recv (i := 0) h2 (by omega) hS, fun U hU hW => ⟨by rw [hU], ?_, ?_, ?_⟩⟩ <;> rw [hU]
  · exact ((h2.kept hS.2.1).narrow hn).moved hW.alike
  · exact ((h3.kept hS.2.1).narrow hn).moved hW.alike
  · exact ((h4.kept hS.2.1).narrow hn).moved hW.alike
theorem SX.calling {sz aK aV : Nat} {U V : State} (hv : U.vm = V.vm) (hh : V.heap = U.heap) (h : SX sz aK aV U) : SX sz aK aV V := by
  obtain ⟨h1, h2, h3, h4⟩ := h
  have ha : U.vm.Alike V.vm := hv ▸ Vm.Alike.refl U.vm
  refine ⟨by rw [hh]; exact h1, ?_, ?_, ?_⟩ <;> rw [hh]
  · exact h2.moved ha
  · exact h3.moved ha
  · exact h4.moved ha
theorem sx_blind {sz aK aV : Nat} {vs : List Value} : FrameBlind (va_Pc vs (SX sz aK aV)) := fun a U g mk q => ⟨q.1, SX.calling (U := U) (V := U.calling g mk a) rfl rfl q.2⟩
abbrev QI (sz : Nat) (r : Int32) : Array Value → State → Outcome → State → Prop := va_Qi (fun (x : Int32) (_ : Unit) => x = r) (fun _ _ => True) (fun q => sz ≤ q)
abbrev QV (sz : Nat) : Array Value → State → Outcome → State → Prop := va_Qv (fun (_ : Unit) => True) (fun _ _ => True) (fun q => sz ≤ q)
set_option maxHeartbeats 4000000 in
theorem c_Scod (l : Launch) (sz aK aV : Nat) : Met l y_Scod (wsM m_Scod) m_Scod.2.2.2.2 (va_Pc [.ref aK] (SX sz aK aV)) (QI sz 0) 0 0 (fun q => sz ≤ q) := by
  refine Met.ofW (cc := prog_17_method_152_code) (maxL := 1) (ret := some .byte) (by decide) rfl ?_
  intro p e s m args below meth c s₁ B hml hv
  obtain ⟨rfl, hX⟩ := hv
  obtain rfl := hX.1
  have hx := B.exec
  have hb := B.bytes
  have hr := B.returns
  have hts := atoms_spec (ws := wsM m_Scod) B.pre
  have hown : s.vm.findClass "java/lang/String" = some m.cls := findClass_of_methodNamed B.named
  have hlocks := B.notSynchronized
  have hS : va_S (fun q : Nat => s.heap.size ≤ q) s.heap s.heap [] := va_S.rf
  have hl := lv_entry ([.ref aK]) (n := 1) (Nat.le_of_ble_eq_true rfl)
  rw [lg_entry_eq]
  generalize (lg_sl ([.ref aK]) ++ List.replicate (1 - (lg_sl ([.ref aK])).length) Slot.unset).toArray = ls at hl ⊢
  have hl : lv_has ls 1 [(0, .ref aK)] := hl
  refine va_gets hx hb hX.2.2.1 hS hown (tb_use hts tw_428) (fun _ h => h) dS_cod_0 ?_
  refine lv_if_eq (tgt := 13) hx hb dS_cod_3 (by decide) (fun h => absurd h (by decide)) (fun _ => ?_)
  refine lv_aload_n hx hb dS_cod_6 rfl (lv_at hl 0 rfl) ?_
  refine vk_getf hx hb (hX.2.1.1 0 (by omega)).2.1 hS hown (tb_use hts tw_1426) (fun _ h => h) dS_cod_7 ?_
  refine lv_goto (tgt := 14) hx hb dS_cod_10 (by decide) ?_
  exact W.zret (v := 0) (ty := .byte) hx hb hr (by decide) (fun t ht hW => ⟨⟨0, (), rfl, rfl, trivial⟩, hS.F ht⟩) hS.2.2 dS_cod_14
set_option maxHeartbeats 4000000 in
theorem c_Sisl (l : Launch) (sz aK aV : Nat) : Met l y_Sisl (wsM m_Sisl) m_Sisl.2.2.2.2 (va_Pc [.ref aK] (SX sz aK aV)) (QI sz 1) 0 0 (fun q => sz ≤ q) := by
  refine Met.ofW (cc := prog_17_method_154_code) (maxL := 1) (ret := some .boolean) (by decide) rfl ?_
  intro p e s m args below meth c s₁ B hml hv
  obtain ⟨rfl, hX⟩ := hv
  obtain rfl := hX.1
  have hx := B.exec
  have hb := B.bytes
  have hr := B.returns
  have hts := atoms_spec (ws := wsM m_Sisl) B.pre
  have hown : s.vm.findClass "java/lang/String" = some m.cls := findClass_of_methodNamed B.named
  have hlocks := B.notSynchronized
  have hS : va_S (fun q : Nat => s.heap.size ≤ q) s.heap s.heap [] := va_S.rf
  have hl := lv_entry ([.ref aK]) (n := 1) (Nat.le_of_ble_eq_true rfl)
  rw [lg_entry_eq]
  generalize (lg_sl ([.ref aK]) ++ List.replicate (1 - (lg_sl ([.ref aK])).length) Slot.unset).toArray = ls at hl ⊢
  have hl : lv_has ls 1 [(0, .ref aK)] := hl
  refine va_gets hx hb hX.2.2.1 hS hown (tb_use hts tw_428) (fun _ h => h) dS_isl_0 ?_
  refine lv_if_eq (tgt := 17) hx hb dS_isl_3 (by decide) (fun h => absurd h (by decide)) (fun _ => ?_)
  refine lv_aload_n hx hb dS_isl_6 rfl (lv_at hl 0 rfl) ?_
  refine vk_getf hx hb (hX.2.1.1 0 (by omega)).2.1 hS hown (tb_use hts tw_1426) (fun _ h => h) dS_isl_7 ?_
  refine lv_if_ne (tgt := 17) hx hb dS_isl_10 (by decide) (fun h => absurd rfl h) (fun _ => ?_)
  refine lv_iconst (v := 1) hx hb dS_isl_13 (by decide) ?_
  refine lv_goto (tgt := 18) hx hb dS_isl_14 (by decide) ?_
  exact W.zret (v := 1) (ty := .boolean) hx hb hr (by decide) (fun t ht hW => ⟨⟨1, (), rfl, rfl, trivial⟩, hS.F ht⟩) hS.2.2 dS_isl_18
set_option maxHeartbeats 4000000 in
theorem c_Pchk (l : Launch) (sz aK aV : Nat) (k n : Int32) (v : Value) (hv : v = .null ∨ ∃ t, v = .ref t) (h0 : ¬ k < 0) (h1 : k < n) : Met l y_Pchk (wsM m_Pchk) m_Pchk.2.2.2.2 (va_Pc [.int k, .int n, v] (SX sz aK aV)) (QI sz k) 0 0 (fun q => sz ≤ q) := by
  refine Met.ofW (cc := prog_22_method_11_code) (maxL := 3) (ret := some .int) (by decide) rfl ?_
  intro p e s m args below meth c s₁ B hml hv2
  obtain ⟨rfl, hX⟩ := hv2
  obtain rfl := hX.1
  have hx := B.exec
  have hb := B.bytes
  have hr := B.returns
  have hts := atoms_spec (ws := wsM m_Pchk) B.pre
  have hlocks := B.notSynchronized
  have hS : va_S (fun q : Nat => s.heap.size ≤ q) s.heap s.heap [] := va_S.rf
  rcases hv with rfl | ⟨t, rfl⟩
  · have hl := lv_entry ([.int k, .int n, .null]) (n := 3) (Nat.le_of_ble_eq_true rfl)
    rw [lg_entry_eq]
    generalize (lg_sl ([.int k, .int n, .null]) ++ List.replicate (3 - (lg_sl ([.int k, .int n, .null])).length) Slot.unset).toArray = ls at hl ⊢
    have hl : lv_has ls 3 [(0, .int k), (1, .int n), (2, .null)] := hl
    refine lv_iload_n hx hb dS_pck_0 rfl (lv_at hl 0 rfl) ?_
    refine lv_if_lt (tgt := 9) hx hb dS_pck_1 (by decide) (fun h => absurd h h0) (fun _ => ?_)
    refine lv_iload_n hx hb dS_pck_4 rfl (lv_at hl 0 rfl) ?_
    refine lv_iload_n hx hb dS_pck_5 rfl (lv_at hl 1 rfl) ?_
    refine lv_icmp_lt (tgt := 16) hx hb dS_pck_6 (by decide) (fun _ => ?_) (fun h => absurd h1 h)
    refine lv_iload_n hx hb dS_pck_16 rfl (lv_at hl 0 rfl) ?_
    exact W.iret (v := k) hx hb hr (fun t ht hW => ⟨⟨k, (), rfl, rfl, trivial⟩, hS.F ht⟩) hS.2.2 dS_pck_17
  · have hl := lv_entry ([.int k, .int n, .ref t]) (n := 3) (Nat.le_of_ble_eq_true rfl)
    rw [lg_entry_eq]
    generalize (lg_sl ([.int k, .int n, .ref t]) ++ List.replicate (3 - (lg_sl ([.int k, .int n, .ref t])).length) Slot.unset).toArray = ls at hl ⊢
    have hl : lv_has ls 3 [(0, .int k), (1, .int n), (2, .ref t)] := hl
    refine lv_iload_n hx hb dS_pck_0 rfl (lv_at hl 0 rfl) ?_
    refine lv_if_lt (tgt := 9) hx hb dS_pck_1 (by decide) (fun h => absurd h h0) (fun _ => ?_)
    refine lv_iload_n hx hb dS_pck_4 rfl (lv_at hl 0 rfl) ?_
    refine lv_iload_n hx hb dS_pck_5 rfl (lv_at hl 1 rfl) ?_
    refine lv_icmp_lt (tgt := 16) hx hb dS_pck_6 (by decide) (fun _ => ?_) (fun h => absurd h1 h)
    refine lv_iload_n hx hb dS_pck_16 rfl (lv_at hl 0 rfl) ?_
    exact W.iret (v := k) hx hb hr (fun t ht hW => ⟨⟨k, (), rfl, rfl, trivial⟩, hS.F ht⟩) hS.2.2 dS_pck_17
set_option maxHeartbeats 4000000 in
theorem c_Schk (l : Launch) (sz aK aV : Nat) (k n : Int32) (h0 : ¬ k < 0) (h1 : k < n) : Met l y_Schk (wsM m_Schk) m_Schk.2.2.2.2 (va_Pc [.int k, .int n] (SX sz aK aV)) (QV sz) 0 0 (fun q => sz ≤ q) := by
  refine Met.ofW (cc := prog_17_method_155_code) (maxL := 2) (ret := none) (by decide) rfl ?_
  intro p e s m args below meth c s₁ B hml hv2
  obtain ⟨rfl, hX⟩ := hv2
  obtain rfl := hX.1
  have hx := B.exec
  have hb := B.bytes
  have hr := B.returns
  have hts := atoms_spec (ws := wsM m_Schk) B.pre
  have hown : s.vm.findClass "java/lang/String" = some m.cls := findClass_of_methodNamed B.named
  have hlocks := B.notSynchronized
  have hS : va_S (fun q : Nat => s.heap.size ≤ q) s.heap s.heap [] := va_S.rf
  have hl := lv_entry ([.int k, .int n]) (n := 2) (Nat.le_of_ble_eq_true rfl)
  rw [lg_entry_eq]
  generalize (lg_sl ([.int k, .int n]) ++ List.replicate (2 - (lg_sl ([.int k, .int n])).length) Slot.unset).toArray = ls at hl ⊢
  have hl : lv_has ls 2 [(0, .int k), (1, .int n)] := hl
  have go : ∀ v : Value, (v = .null ∨ ∃ t, v = .ref t) → va_Z "jdk/internal/util/Preconditions" "SIOOBE_FORMATTER" "Ljava/util/function/BiFunction;" v (fun q => s.heap.size ≤ q) s s.heap → W p l e m_Schk.2.2.2.2 s m _ below meth c s.heap [] 0 0 (MQ below (QV s.heap.size) [Value.int k, Value.int n].toArray s 0 0 (fun q => s.heap.size ≤ q)) (F0 m 0 ls []) := fun v hvv hZ => by
    refine lv_iload_n hx hb dS_chk_0 rfl (lv_at hl 0 rfl) ?_
    refine lv_iload_n hx hb dS_chk_1 rfl (lv_at hl 1 rfl) ?_
    refine va_gets hx hb hZ hS hown (tb_use hts tw_444) (fun _ h => h) dS_chk_2 ?_
    refine va_calli (va_runS (As := [.int k, .int n, v]) (rest := []) (n := 3) ⟨hx, hb, hml, hown, hts⟩ (c_Pchk l s.heap.size aK aV k n v hvv h0 h1) ⟨⟨rfl, rfl, Nat.le_of_ble_eq_true rfl, Nat.le_of_ble_eq_true rfl, ws_pay (mi := m_Schk) (mi' := m_Pchk) hts tw_448, List.mem_cons_self, tb_use hts tw_448, tb_use hts tw_78, ⟨by decide, by decide⟩, nPar_len (by decide +kernel), tb_use hts tw_446⟩, tb_use hts tw_447⟩ ⟨sx_blind, fun U hU hW => ⟨rfl, hX.go hS hW hU rfl⟩⟩ rfl rfl hl.1 rfl (lv_room (Nat.le_of_ble_eq_true rfl)) dS_chk_5 ⟨Nat.le_refl 0, Nat.le_refl 0⟩) hS (fun q _ h => h) (fun q h => h) (fun r u t H1 locs ht hvm hw hB hz1 hk1 hS => ?_)
    refine lv_pop hx hb dS_chk_8 rfl ?_
    exact W.vret hx hb hr (fun t ht hW => ⟨⟨(), rfl, trivial, trivial⟩, hS.F ht⟩) hS.2.2 dS_chk_9
  rcases hX.2.2.2 with hZ | ⟨t, hZ⟩
  · exact go _ (Or.inl rfl) hZ
  · exact go _ (Or.inr ⟨t, rfl⟩) hZ
set_option maxHeartbeats 4000000 in
theorem c_Slen (l : Launch) (sz aK aV : Nat) : Met l y_Slen (wsM m_Slen) m_Slen.2.2.2.2 (va_Pc [.ref aK] (SX sz aK aV)) (QI sz 82) 0 0 (fun q => sz ≤ q) := by
  refine Met.ofW (cc := prog_17_method_54_code) (maxL := 1) (ret := some .int) (by decide) rfl ?_
  intro p e s m args below meth c s₁ B hml hv2
  obtain ⟨rfl, hX⟩ := hv2
  obtain rfl := hX.1
  have hx := B.exec
  have hb := B.bytes
  have hr := B.returns
  have hts := atoms_spec (ws := wsM m_Slen) B.pre
  have hown : s.vm.findClass "java/lang/String" = some m.cls := findClass_of_methodNamed B.named
  have hlocks := B.notSynchronized
  have hS : va_S (fun q : Nat => s.heap.size ≤ q) s.heap s.heap [] := va_S.rf
  have hl := lv_entry ([.ref aK]) (n := 1) (Nat.le_of_ble_eq_true rfl)
  rw [lg_entry_eq]
  generalize (lg_sl ([.ref aK]) ++ List.replicate (1 - (lg_sl ([.ref aK])).length) Slot.unset).toArray = ls at hl ⊢
  have hl : lv_has ls 1 [(0, .ref aK)] := hl
  obtain ⟨-, -, hval, harr⟩ := hX.2.1.1 0 (by omega)
  refine lv_aload_n hx hb dS_len_0 rfl (lv_at hl 0 rfl) ?_
  refine vk_getf hx hb hval hS hown (tb_use hts tw_1425) (fun _ h => h) dS_len_1 ?_
  refine va_tlen hx hb harr hS (v := 82) rfl dS_len_4 ?_
  refine lv_aload_n hx hb dS_len_5 rfl (lv_at hl 0 rfl) ?_
  refine va_calli (va_runV (As := []) (rest := [.int 82]) (n := 0) ⟨hx, hb, hml, hown, hts⟩ (c_Scod l s.heap.size aK aV) ⟨⟨rfl, rfl, Nat.le_of_ble_eq_true rfl, Nat.le_of_ble_eq_true rfl, ws_pay (mi := m_Slen) (mi' := m_Scod) hts tw_427, List.mem_cons_self, tb_use hts tw_427, tb_use hts tw_76, ⟨by decide, by decide⟩, nPar_len (by decide +kernel), tb_use hts tw_424⟩, tb_use hts tw_425, tb_use hts tw_426⟩ ⟨sx_blind, vk_recv (i := 0) hX.2.1 (by omega) hS, fun U hU hW => ⟨rfl, hX.go hS hW hU rfl⟩⟩ rfl rfl hl.1 rfl (lv_room (Nat.le_of_ble_eq_true rfl)) dS_len_6 ⟨Nat.le_refl 0, Nat.le_refl 0⟩) hS (fun q _ h => h) (fun q h => h) (fun r u t H1 locs ht hvm hw hB hz1 hk1 hS => ?_)
  subst hw
  refine lv_ishr hx hb dS_len_9 ?_
  exact W.iret (v := (82 : Int32) >>> ((0 : Int32) &&& 31)) hx hb hr (fun t ht hW => ⟨⟨_, (), rfl, by decide, trivial⟩, hS.F ht⟩) hS.2.2 dS_len_10
set_option maxHeartbeats 4000000 in
theorem c_Lchr (l : Launch) (sz aK aV : Nat) (k : Nat) (hk : k < 82) : Met l y_Lchr (wsM m_Lchr) m_Lchr.2.2.2.2 (va_Pc [.ref aV, .int (nI k)] (SX sz aK aV)) (QI sz (FTL.getD k 0)) 0 0 (fun q => sz ≤ q) := by
  refine Met.ofW (cc := prog_18_method_2_code) (maxL := 2) (ret := some .char) (by decide) rfl ?_
  intro p e s m args below meth c s₁ B hml hv2
  obtain ⟨rfl, hX⟩ := hv2
  obtain rfl := hX.1
  have hx := B.exec
  have hb := B.bytes
  have hr := B.returns
  have hts := atoms_spec (ws := wsM m_Lchr) B.pre
  have hown : s.vm.findClass "java/lang/StringLatin1" = some m.cls := findClass_of_methodNamed B.named
  have hlocks := B.notSynchronized
  have hS : va_S (fun q : Nat => s.heap.size ≤ q) s.heap s.heap [] := va_S.rf
  have hl := lv_entry ([.ref aV, .int (nI k)]) (n := 2) (Nat.le_of_ble_eq_true rfl)
  rw [lg_entry_eq]
  generalize (lg_sl ([.ref aV, .int (nI k)]) ++ List.replicate (2 - (lg_sl ([.ref aV, .int (nI k)])).length) Slot.unset).toArray = ls at hl ⊢
  have hl : lv_has ls 2 [(0, .ref aV), (1, .int (nI k))] := hl
  obtain ⟨-, -, hval, harr⟩ := hX.2.1.1 0 (by omega)
  have hkk : ∀ k : Fin 82, ¬ nI (k : Nat) < 0 ∧ nI (k : Nat) < (82 : Int32) ∧ vp_in (nI (k : Nat)) 82 ∧ (nI (k : Nat)).toNatClampNeg = (k : Nat) ∧ ((FTL.getD (k : Nat) 0 &&& 255).toUInt32 % 65536).toInt32 = FTL.getD (k : Nat) 0 ∧ narrow .char (.int (FTL.getD (k : Nat) 0)) = .int (FTL.getD (k : Nat) 0) := by
    have h1 : ∀ k : Fin 82, ¬ nI (k : Nat) < 0 ∧ nI (k : Nat) < (82 : Int32) ∧ (nI (k : Nat)).toNatClampNeg = (k : Nat) ∧ ((FTL.getD (k : Nat) 0 &&& 255).toUInt32 % 65536).toInt32 = FTL.getD (k : Nat) 0 ∧ narrow .char (.int (FTL.getD (k : Nat) 0)) = .int (FTL.getD (k : Nat) 0) := by decide +kernel
    intro k
    obtain ⟨a, b, c, d, e⟩ := h1 k
    refine ⟨a, b, fun z => ?_, c, d, e⟩
    rcases z with z | z
    · exact a z
    · rw [c] at z; have := k.2; omega
  obtain ⟨a1, a2, a3, a4, a5, a6⟩ := hkk ⟨k, hk⟩
  refine lv_iload_n hx hb dS_lch_0 rfl (lv_at hl 1 rfl) ?_
  refine lv_aload_n hx hb dS_lch_1 rfl (lv_at hl 0 rfl) ?_
  refine va_tlen hx hb harr hS (v := 82) rfl dS_lch_2 ?_
  refine va_callv (va_runS (As := [.int (nI k), .int 82]) (rest := []) (n := 2) ⟨hx, hb, hml, hown, hts⟩ (c_Schk l s.heap.size aK aV (nI k) 82 a1 a2) ⟨⟨rfl, rfl, Nat.le_of_ble_eq_true rfl, Nat.le_of_ble_eq_true rfl, ws_pay (mi := m_Lchr) (mi' := m_Schk) hts tw_443, List.mem_cons_self, tb_use hts tw_443, tb_use hts tw_76, ⟨by decide, by decide⟩, nPar_len (by decide +kernel), tb_use hts tw_441⟩, tb_use hts tw_442⟩ ⟨sx_blind, fun U hU hW => ⟨rfl, hX.go hS hW hU rfl⟩⟩ rfl rfl hl.1 rfl (lv_room (Nat.le_of_ble_eq_true rfl)) dS_lch_3 ⟨Nat.le_refl 0, Nat.le_refl 0⟩) hS (fun q _ h => h) (fun q h => h) (fun u t H1 locs ht hvm hw hB hz1 hk1 hS => ?_)
  refine lv_aload_n hx hb dS_lch_6 rfl (lv_at hl 0 rfl) ?_
  refine lv_iload_n hx hb dS_lch_7 rfl (lv_at hl 1 rfl) ?_
  refine va_tb hx hb harr hS (i := nI k) (v := .int (FTL.getD k 0)) a3 (by rw [a4]; rfl) dS_lch_8 ?_
  refine lv_sipush (v := 255) hx hb dS_lch_9 (by decide) ?_
  refine lv_iand hx hb dS_lch_12 ?_
  refine lv_i2c (v := FTL.getD k 0) hx hb dS_lch_13 a5 ?_
  exact W.zret (v := FTL.getD k 0) (ty := .char) hx hb hr a6 (fun t ht hW => ⟨⟨_, (), rfl, rfl, trivial⟩, hS.F ht⟩) hS.2.2 dS_lch_14
set_option maxHeartbeats 4000000 in
theorem c_Schr (l : Launch) (sz aK aV : Nat) (k : Nat) (hk : k < 82) : Met l y_Schr (wsM m_Schr) m_Schr.2.2.2.2 (va_Pc [.ref aK, .int (nI k)] (SX sz aK aV)) (QI sz (FTL.getD k 0)) 0 0 (fun q => sz ≤ q) := by
  refine Met.ofW (cc := prog_17_method_56_code) (maxL := 2) (ret := some .char) (by decide) rfl ?_
  intro p e s m args below meth c s₁ B hml hv2
  obtain ⟨rfl, hX⟩ := hv2
  obtain rfl := hX.1
  have hx := B.exec
  have hb := B.bytes
  have hr := B.returns
  have hts := atoms_spec (ws := wsM m_Schr) B.pre
  have hown : s.vm.findClass "java/lang/String" = some m.cls := findClass_of_methodNamed B.named
  have hlocks := B.notSynchronized
  have hS : va_S (fun q : Nat => s.heap.size ≤ q) s.heap s.heap [] := va_S.rf
  have hl := lv_entry ([.ref aK, .int (nI k)]) (n := 2) (Nat.le_of_ble_eq_true rfl)
  rw [lg_entry_eq]
  generalize (lg_sl ([.ref aK, .int (nI k)]) ++ List.replicate (2 - (lg_sl ([.ref aK, .int (nI k)])).length) Slot.unset).toArray = ls at hl ⊢
  have hl : lv_has ls 2 [(0, .ref aK), (1, .int (nI k))] := hl
  obtain ⟨-, -, hval, harr⟩ := hX.2.1.1 0 (by omega)
  have a6 : narrow .char (.int (FTL.getD k 0)) = .int (FTL.getD k 0) := by
    have h1 : ∀ k : Fin 82, narrow .char (.int (FTL.getD (k : Nat) 0)) = .int (FTL.getD (k : Nat) 0) := by decide +kernel
    exact h1 ⟨k, hk⟩
  refine lv_aload_n hx hb dS_chr_0 rfl (lv_at hl 0 rfl) ?_
  refine va_calli (va_runV (As := []) (rest := []) (n := 0) ⟨hx, hb, hml, hown, hts⟩ (c_Sisl l s.heap.size aK aV) ⟨⟨rfl, rfl, Nat.le_of_ble_eq_true rfl, Nat.le_of_ble_eq_true rfl, ws_pay (mi := m_Schr) (mi' := m_Sisl) hts tw_437, List.mem_cons_self, tb_use hts tw_437, tb_use hts tw_76, ⟨by decide, by decide⟩, nPar_len (by decide +kernel), tb_use hts tw_434⟩, tb_use hts tw_435, tb_use hts tw_436⟩ ⟨sx_blind, vk_recv (i := 0) hX.2.1 (by omega) hS, fun U hU hW => ⟨rfl, hX.go hS hW hU rfl⟩⟩ rfl rfl hl.1 rfl (lv_room (Nat.le_of_ble_eq_true rfl)) dS_chr_1 ⟨Nat.le_refl 0, Nat.le_refl 0⟩) hS (fun q _ h => h) (fun q h => h) (fun r u t H1 locs ht hvm hw hB hz1 hk1 hS => ?_)
  subst hw
  refine lv_if_eq (tgt := 16) hx hb dS_chr_4 (by decide) (fun h => absurd h (by decide)) (fun _ => ?_)
  refine lv_aload_n hx hb dS_chr_7 rfl (lv_at hl 0 rfl) ?_
  refine vk_getf hx hb hval hS hown (tb_use hts tw_1425) (fun _ h => h) dS_chr_8 ?_
  refine lv_iload_n hx hb dS_chr_11 rfl (lv_at hl 1 rfl) ?_
  refine va_calli (va_runS (As := [.ref aV, .int (nI k)]) (rest := []) (n := 2) ⟨hx, hb, hml, hown, hts⟩ (c_Lchr l H1.size aK aV k hk) ⟨⟨rfl, rfl, Nat.le_of_ble_eq_true rfl, Nat.le_of_ble_eq_true rfl, ws_pay (mi := m_Schr) (mi' := m_Lchr) hts tw_440, List.mem_cons_self, tb_use hts tw_440, tb_use hts tw_77, ⟨by decide, by decide⟩, nPar_len (by decide +kernel), tb_use hts tw_438⟩, tb_use hts tw_439⟩ ⟨sx_blind, fun U hU hW => ⟨rfl, hX.go hS hW hU rfl⟩⟩ rfl rfl hl.1 rfl (lv_room (Nat.le_of_ble_eq_true rfl)) dS_chr_12 ⟨Nat.le_refl 0, Nat.le_refl 0⟩) hS (fun q _ h => Nat.le_trans hz1 h) (fun q h => Nat.le_trans hz1 h) (fun r u t H2 locs2 ht hvm hw hB hz2 hk2 hS => ?_)
  subst hw
  exact W.zret (v := FTL.getD k 0) (ty := .char) hx hb hr a6 (fun t ht hW => ⟨⟨_, (), rfl, rfl, trivial⟩, hS.F ht⟩) hS.2.2 dS_chr_15
