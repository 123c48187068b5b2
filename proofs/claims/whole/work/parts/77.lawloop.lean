/-! THE LAW: its loop and its entry -/
section LAWL
variable {p : Program} {l : Launch} {e : Env} {s : State} {m : MethodId} {below : List Frame} {meth : Method} {c : Code} {b L : Nat} {xs : Nat → Int32} {D : va_G} {cA : FieldType → ClassId} {H : Heap} {locs : List Loc} {cells slots : Nat} {Z : State → Prop} {ls : Array Slot} {rest st0 : List Value} {a1 a2 i : Nat}
theorem lw_loop (K : LK p s m meth c b L xs D cA) (hcs : cells ≤ 600000 ∧ slots ≤ 7302250) : ∀ (n i : Nat) (σ : ST) (hC hM : AH) (adC adM : Nat → Nat) (H : Heap) (locs : List Loc) (ls : Array Slot), i ≤ L → L < i + n → LI D cA s a1 a2 σ hC hM adC adM H locs → LV b a1 a2 i ls → W p l e room_1 s m #[Value.ref b] below meth c H locs cells slots (lw_Z below #[Value.ref b] s) (F0 m 18 ls []) := by
  obtain ⟨hx, hb, hr, hml, hown, hts, hX, hbl, hlk, hgv⟩ := id K.1
  have hL := K.2.2.2.2
  have hbA : ¬ (AL s) b := Nat.not_le.mpr hbl
  have eL : Int32.ofNat L = Int32.ofInt (L : Int) := Int32.toInt_inj.mp ((nI_toInt (n := L) (by omega)).trans (t32 (x := (L : Int)) (by unfold ok32; omega)).symm)
  intro n
  induction n with
  | zero => intro i σ hC hM adC adM H locs ls h1 h2; omega
  | succ n ih =>
    intro i σ hC hM adC adM H locs ls h1 h2 hI hl
    have hS := hI.2.2.2.2.2
    have oi : ok32 (i : Int) := by unfold ok32; omega
    have oL : ok32 ((L : Int) - 6) := by unfold ok32; omega
    have e6 : Int32.ofNat L - Int32.ofInt 6 = Int32.ofInt ((L : Int) - 6) := by rw [eL, i32_sub, wr_id (by omega) (by omega)]
    refine lv_iload_n hx hb dl_18 rfl (lv_at hl 3 rfl) ?_
    refine lv_aload_n hx hb dl_19 rfl (lv_at hl 0 rfl) ?_
    refine va_slen hx hb hX hbl hbA hS dl_20 ?_
    refine lv_bipush (v := Int32.ofInt 6) hx hb dl_21 (by decide) ?_
    refine lv_isub hx hb dl_23 ?_
    rw [e6]
    refine lv_icmp_gt (tgt := 886) hx hb dl_24 (by decide) (fun _ => ?_) (fun q => ?_)
    · refine lv_iconst (v := 1) hx hb dl_886 (by decide) ?_
      refine va_forget (fun q hq => hS.2.2 q hq) ?_
      obtain ⟨c1, c2⟩ := hcs
      refine W.widen (k := 600000) (n := 7302250) c1 c2 ?_
      exact lw_ret hx hb hr hlk dl_887
    · have hi : i + 6 ≤ L := by
        have := mt (i32_lt oL oi).mpr q
        omega
      have h_i : vp_in (Int32.ofInt (i : Int)) L := i32_in oi (by omega) (by omega)
      refine lv_aload_n hx hb dl_27 rfl (lv_at hl 0 rfl) ?_
      refine lv_iload_n hx hb dl_28 rfl (lv_at hl 3 rfl) ?_
      refine va_sld hx hb hX hbl hbA hS h_i dl_29 ?_
      refine lv_bipush (v := Int32.ofInt 31) hx hb dl_30 (by decide) ?_
      refine lv_iand hx hb dl_32 ?_
      generalize (xs (Int32.ofInt (i : Int)).toNatClampNeg &&& Int32.ofInt 31) = v
      have kont : ∀ (σ' : ST) (hC' hM' : AH) (adC' adM' : Nat → Nat) (H' : Heap) (locs' : List Loc), LI D cA s a1 a2 σ' hC' hM' adC' adM' H' locs' → W p l e room_1 s m #[Value.ref b] below meth c H' locs' cells slots (lw_Z below #[Value.ref b] s) (F0 m 880 ls []) := by
        intro σ' hC' hM' adC' adM' H' locs' hI'
        have w6 : Int32.ofInt (i : Int) + Int32.ofInt 6 = Int32.ofInt ((i + 6 : Nat) : Int) := by rw [i32_add, wr_id (by omega) (by omega), Int.natCast_add]; rfl
        refine lv_iinc (v := Int32.ofInt ((i + 6 : Nat) : Int)) (lv' := [(3, .int (Int32.ofInt ((i + 6 : Nat) : Int))), (0, .ref b), (1, .ref a1), (2, .ref a2)]) hx hb dl_880 hl (k := 3) rfl w6 (by decide) rfl (fun ls' hl' => ?_)
        refine lv_goto (tgt := 18) hx hb dl_883 (by decide) ?_
        exact ih (i + 6) σ' hC' hM' adC' adM' H' locs' ls' hi (by omega) hI' (lv_sub hl' [1, 2, 3, 0] rfl)
      have q : v.toInt < 0 ∨ 27 < v.toInt ∨ v.toInt = 0 ∨ v.toInt = 1 ∨ v.toInt = 2 ∨ v.toInt = 3 ∨ v.toInt = 4 ∨ v.toInt = 5 ∨ v.toInt = 6 ∨ v.toInt = 7 ∨ v.toInt = 8 ∨ v.toInt = 9 ∨ v.toInt = 10 ∨ v.toInt = 11 ∨ v.toInt = 12 ∨ v.toInt = 13 ∨ v.toInt = 14 ∨ v.toInt = 15 ∨ v.toInt = 16 ∨ v.toInt = 17 ∨ v.toInt = 18 ∨ v.toInt = 19 ∨ v.toInt = 20 ∨ v.toInt = 21 ∨ v.toInt = 22 ∨ v.toInt = 23 ∨ v.toInt = 24 ∨ v.toInt = 25 ∨ v.toInt = 26 ∨ v.toInt = 27 := by omega
      rcases q with q | q | q | q | q | q | q | q | q | q | q | q | q | q | q | q | q | q | q | q | q | q | q | q | q | q | q | q | q | q
      · refine lv_tableOut (tgt := 880) hx hb dl_33 (Or.inl q) (by decide) ?_
        exact kont _ _ _ _ _ _ _ hI
      · refine lv_tableOut (tgt := 880) hx hb dl_33 (Or.inr q) (by decide) ?_
        exact kont _ _ _ _ _ _ _ hI
      · refine lv_tableIn (off := 127) (tgt := 160) hx hb dl_33 (by omega) (by omega) (by rw [q]; rfl) (by decide) ?_
        exact lc_0 K hI hl hi hcs kont
      · refine lv_tableIn (off := 150) (tgt := 183) hx hb dl_33 (by omega) (by omega) (by rw [q]; rfl) (by decide) ?_
        exact lc_1 K hI hl hi hcs kont
      · refine lv_tableIn (off := 163) (tgt := 196) hx hb dl_33 (by omega) (by omega) (by rw [q]; rfl) (by decide) ?_
        exact lc_2 K hI hl hi hcs kont
      · refine lv_tableIn (off := 176) (tgt := 209) hx hb dl_33 (by omega) (by omega) (by rw [q]; rfl) (by decide) ?_
        exact lc_3 K hI hl hi hcs kont
      · refine lv_tableIn (off := 189) (tgt := 222) hx hb dl_33 (by omega) (by omega) (by rw [q]; rfl) (by decide) ?_
        exact lc_4 K hI hl hi hcs kont
      · refine lv_tableIn (off := 222) (tgt := 255) hx hb dl_33 (by omega) (by omega) (by rw [q]; rfl) (by decide) ?_
        exact lc_5 K hI hl hi hcs kont
      · refine lv_tableIn (off := 245) (tgt := 278) hx hb dl_33 (by omega) (by omega) (by rw [q]; rfl) (by decide) ?_
        exact lc_6 K hI hl hi hcs kont
      · refine lv_tableIn (off := 268) (tgt := 301) hx hb dl_33 (by omega) (by omega) (by rw [q]; rfl) (by decide) ?_
        exact lc_7 K hI hl hi hcs kont
      · refine lv_tableIn (off := 311) (tgt := 344) hx hb dl_33 (by omega) (by omega) (by rw [q]; rfl) (by decide) ?_
        exact lc_8 K hI hl hi hcs kont
      · refine lv_tableIn (off := 360) (tgt := 393) hx hb dl_33 (by omega) (by omega) (by rw [q]; rfl) (by decide) ?_
        exact lc_9 K hI hl hi hcs kont
      · refine lv_tableIn (off := 373) (tgt := 406) hx hb dl_33 (by omega) (by omega) (by rw [q]; rfl) (by decide) ?_
        exact lc_10 K hI hl hi hcs kont
      · refine lv_tableIn (off := 406) (tgt := 439) hx hb dl_33 (by omega) (by omega) (by rw [q]; rfl) (by decide) ?_
        exact lc_11 K hI hl hi hcs kont
      · refine lv_tableIn (off := 439) (tgt := 472) hx hb dl_33 (by omega) (by omega) (by rw [q]; rfl) (by decide) ?_
        exact lc_12 K hI hl hi hcs kont
      · refine lv_tableIn (off := 462) (tgt := 495) hx hb dl_33 (by omega) (by omega) (by rw [q]; rfl) (by decide) ?_
        exact lc_13 K hI hl hi hcs kont
      · refine lv_tableIn (off := 475) (tgt := 508) hx hb dl_33 (by omega) (by omega) (by rw [q]; rfl) (by decide) ?_
        exact lc_14 K hI hl hi hcs kont
      · refine lv_tableIn (off := 498) (tgt := 531) hx hb dl_33 (by omega) (by omega) (by rw [q]; rfl) (by decide) ?_
        exact lc_15 K hI hl hi hcs kont
      · refine lv_tableIn (off := 521) (tgt := 554) hx hb dl_33 (by omega) (by omega) (by rw [q]; rfl) (by decide) ?_
        exact lc_16 K hI hl hi hcs kont
      · refine lv_tableIn (off := 534) (tgt := 567) hx hb dl_33 (by omega) (by omega) (by rw [q]; rfl) (by decide) ?_
        exact lc_17 K hI hl hi hcs kont
      · refine lv_tableIn (off := 567) (tgt := 600) hx hb dl_33 (by omega) (by omega) (by rw [q]; rfl) (by decide) ?_
        exact lc_18 K hI hl hi hcs kont
      · refine lv_tableIn (off := 630) (tgt := 663) hx hb dl_33 (by omega) (by omega) (by rw [q]; rfl) (by decide) ?_
        exact lc_19 K hI hl hi hcs kont
      · refine lv_tableIn (off := 643) (tgt := 676) hx hb dl_33 (by omega) (by omega) (by rw [q]; rfl) (by decide) ?_
        exact lc_20 K hI hl hi hcs kont
      · refine lv_tableIn (off := 656) (tgt := 689) hx hb dl_33 (by omega) (by omega) (by rw [q]; rfl) (by decide) ?_
        exact lc_21 K hI hl hi hcs kont
      · refine lv_tableIn (off := 679) (tgt := 712) hx hb dl_33 (by omega) (by omega) (by rw [q]; rfl) (by decide) ?_
        exact lc_22 K hI hl hi hcs kont
      · refine lv_tableIn (off := 702) (tgt := 735) hx hb dl_33 (by omega) (by omega) (by rw [q]; rfl) (by decide) ?_
        exact lc_23 K hI hl hi hcs kont
      · refine lv_tableIn (off := 755) (tgt := 788) hx hb dl_33 (by omega) (by omega) (by rw [q]; rfl) (by decide) ?_
        exact lc_24 K hI hl hi hcs kont
      · refine lv_tableIn (off := 798) (tgt := 831) hx hb dl_33 (by omega) (by omega) (by rw [q]; rfl) (by decide) ?_
        exact lc_25 K hI hl hi hcs kont
      · refine lv_tableIn (off := 811) (tgt := 844) hx hb dl_33 (by omega) (by omega) (by rw [q]; rfl) (by decide) ?_
        exact lc_26 K hI hl hi hcs kont
      · refine lv_tableIn (off := 824) (tgt := 857) hx hb dl_33 (by omega) (by omega) (by rw [q]; rfl) (by decide) ?_
        exact lc_27 K hI hl hi hcs kont
theorem fv_hz1 {ad : Nat → Nat} {k : Nat} {ty : FieldType} (hty : ty ≠ .float ∧ ty ≠ .double) : fv ad hz1 1 k ty = defaultValue ty := by
  cases ty <;> first | rfl | exact absurd rfl hty.1 | exact absurd rfl hty.2
theorem okH_hz1 : okH hz1 := ⟨fun _ _ => ok32_0, fun _ _ => Nat.zero_le _, fun _ _ => ok64_0⟩
/-- a new object of the law -/
theorem lw_new {S : Sys} {ci N index pc : Nat} {C : String} {T : u_T} (K : LK p s m meth c b L xs D cA) (hCF : CF ci C T N) (hfd : ∀ k, k < N → FT ci k ≠ .float ∧ FT ci k ≠ .double) (hS1 : S 1 = some (.inl ci)) (h1 : Cond.classLink R_law index C ∈ TB) (h2 : Cond.instantiable C N ∈ TB) (h3 : Cond.initialized C ∈ TB) {wr : va_W} (hw : LW D s [] wr H locs) (hcs : cells + 1 ≤ 600000 ∧ slots + N ≤ 7302250) (hd : decode code pc = .ok (.new index, 3))
    (kk : ∀ (q : Nat) (H1 : Heap), LW D s (wld S cA (fun _ => q) hz1) wr H1 locs → W p l e room_1 s m #[Value.ref b] below meth c H1 locs (cells + 1) (slots + N) Z (F0 m (pc + 3) ls (.ref q :: rest))) :
    W p l e room_1 s m #[Value.ref b] below meth c H locs cells slots Z (F0 m pc ls rest) := by
  obtain ⟨C0, hK, hN, hX, hL⟩ := K
  obtain ⟨hx, hb, hr, hml, hown, hts, hXs, hbl, hlk, hgv⟩ := id C0
  have tb : ∀ w, w ∈ TB → w.before #[Value.ref b] s = true := fun w hw => hts _ (List.mem_filter.mp hw).1
  obtain ⟨hP, hD, hS⟩ := hw
  refine va_new (fs := (List.range N).map (fun k => fv (fun _ => 0) hz1 1 k (FT ci k))) hx hb tb hCF.2.1 (FT ci) hCF.2.2.1 hown (tb _ h1) (tb _ h2) (tb _ h3) hK hP hD hS (fun _ z => z) hCF.1 (fun j hj => ?_) hcs.1 hcs.2 hd (fun q H1 hP1 hD1 hS1' => ?_)
  · unfold vp_V
    rw [List.getD_eq_getElem?_getD, fs_at hj]
    exact (fv_hz1 (hfd j hj)).symm
  · refine kk q H1 (LW.swap ⟨?_, ?_, hS1'⟩)
    all_goals
      have e1 : wld S cA (fun _ => q) hz1 = [(q, .inr (ci, (List.range N).map (fun k => fv (fun _ => 0) hz1 1 k (FT ci k))))] := by
        show [(q, ent S cA (fun _ => q) hz1 1)] = _
        rw [ent_obj hS1, hCF.nf]
        congr 4
      rw [e1]
      assumption
end LAWL
theorem ln_222 : (Cond.arrayOver (.object "SumsThatDiffer$Standing")) ∈ lw_tbl := List.mem_of_getElem? (i := 222) (by decide +kernel)
theorem ln_429 : (Cond.laysStatic "java/lang/String" "COMPACT_STRINGS" "Z") ∈ lw_tbl := List.mem_of_getElem? (i := 429) (by decide +kernel)
theorem ln_445 : (Cond.laysStatic "jdk/internal/util/Preconditions" "SIOOBE_FORMATTER" "Ljava/util/function/BiFunction;") ∈ lw_tbl := List.mem_of_getElem? (i := 445) (by decide +kernel)
abbrev FTt : Term := .field (.string "SumsThatDiffer" 86) "java/lang/String" "value" "[B"
theorem FT_el : ∀ j : Fin 82, Cond.eq (.elem FTt (.int (Int32.ofNat (j : Nat)))) (.int (FTL.getD (j : Nat) 0)) ∈ flatC (Jvm.Cond.and given_1 narrow_1) := by decide +kernel
theorem xs_at {s : State} {b : Nat} (hts : ∀ w ∈ lw_tbl, w.before #[Value.ref b] s = true) (hgv : (Jvm.Cond.and given_1 narrow_1).before #[Value.ref b] s = true) : XS (AL s) s s.heap := by
  have fl := flat_of_before _ hgv
  have hA : ∀ a : Nat, a < s.heap.size → ¬ (AL s) a := fun a h => Nat.not_le.mpr h
  have tb : ∀ w, w ∈ TB → w.before #[Value.ref b] s = true := fun w hw => hts _ (List.mem_filter.mp hw).1
  obtain ⟨adK, adV, hS, hE⟩ := vk_Sof (args := #[Value.ref b]) (s := s) (N := 1) (tm := fun _ => Term.string "SumsThatDiffer" 86) (len := [82]) (byt := [FTL]) (A := AL s)
    (fun i hi => by obtain rfl : i = 0 := by omega
                    decide)
    (fun i hi => fl _ (by decide +kernel)) (fun i hi => fl _ (by decide +kernel)) (fun i hi => fl _ (by decide +kernel))
    (fun i hi => by obtain rfl : i = 0 := by omega
                    exact fl _ (by decide +kernel))
    (fun i hi j hj => by obtain rfl : i = 0 := by omega
                         exact fl _ (FT_el ⟨j, hj⟩))
    (fun i j hi hj hij => absurd (show i = j by omega) hij) hA
  refine ⟨adK 0, adV 0, vk_R.of (hts _ ln_419) (hE 0 (by omega)), ⟨fun i hi => ?_, fun i j hi hj _ => by omega⟩, va_Zof (hts _ ln_429) (tb _ tw_76) (va_eqt (fl _ (by decide +kernel))) hA, va_Zqof (hts _ ln_445) (tb _ tw_78) (fl _ (by decide +kernel)) hA⟩
  obtain rfl : i = 0 := by omega
  exact hS.1 0 hi
theorem nbk_at {s : State} {b : Nat} (hts : ∀ w ∈ lw_tbl, w.before #[Value.ref b] s = true) : NBK s := by
  refine ⟨fun w hw => ?_, va_AO.of (hts _ ln_222)⟩
  have h1 := hts w (List.mem_filter.mp hw).1
  have h2 := (List.mem_filter.mp hw).2
  cases w <;> first | exact va_Nw.of rfl h1 | cases h2
theorem ka_at {s : State} {b : Nat} (hts : ∀ w ∈ lw_tbl, w.before #[Value.ref b] s = true) : ∃ cA : FieldType → ClassId, ∀ t ∈ ATY, ArrOfT s (cA t) t ∧ va_RA s (cA t) t := by
  have tb : ∀ w, w ∈ TB → w.before #[Value.ref b] s = true := fun w hw => hts _ (List.mem_filter.mp hw).1
  obtain ⟨c0, k0, m0, a1, a2, a3⟩ := Cond.arrayClass_spec (tb _ tw_166)
  obtain ⟨c1, k1, m1, b1, b2, b3⟩ := Cond.arrayClass_spec (tb _ tw_397)
  obtain ⟨c2, k2, m2, d1, d2, d3⟩ := Cond.arrayClass_spec (tb _ tw_106)
  obtain ⟨comp, c3, k3, e1, -, e3, e4, e5⟩ := Cond.arrayOver_spec (hts _ ln_222)
  refine ⟨fun t => match t with | .int => c0 | .boolean => c1 | .char => c2 | _ => c3, fun t ht => ?_⟩
  have ht : t = .int ∨ t = .boolean ∨ t = .char ∨ t = .object "SumsThatDiffer$Standing" := by
    simpa [ATY] using ht
  rcases ht with rfl | rfl | rfl | rfl
  · exact ⟨fun N z => ⟨(fun k h => by cases h), k0, a2, m0, a3⟩, a1⟩
  · exact ⟨fun N z => ⟨(fun k h => by cases h), k1, b2, m1, b3⟩, b1⟩
  · exact ⟨fun N z => ⟨(fun k h => by cases h), k2, d2, m2, d3⟩, d1⟩
  · exact ⟨fun N z => ⟨(fun k h => by cases h), k3, e3, comp, e4⟩, ⟨k3, comp, e3, e4, e1, e5⟩⟩
theorem kn_at {s : State} {b : Nat} (hts : ∀ w ∈ lw_tbl, w.before #[Value.ref b] s = true) : ∃ D : va_G, ∀ (ci : Nat) (q : vw_C), vwCl[ci]? = some q → u_Kn s q.1 q.2.1 q.2.2 (D.1 ci) (D.2 ci) := by
  have tb : ∀ w, w ∈ TB → w.before #[Value.ref b] s = true := fun w hw => hts _ (List.mem_filter.mp hw).1
  have kn : ∀ {ci N n : Nat} {C : String} {T : u_T}, CF ci C T N → Cond.instantiable C n ∈ TB → ∃ x : ClassId × (Nat → Nat), ∀ q : vw_C, vwCl[ci]? = some q → u_Kn s q.1 q.2.1 q.2.2 x.1 x.2 := fun hCF hi => by
    obtain ⟨cC, iS, h⟩ := u_known tb hCF.2.1 (tb _ hi)
    refine ⟨(cC, iS), fun q hq => ?_⟩
    rw [hCF.1] at hq
    cases hq
    exact h
  have h0 : ∀ ci : Nat, ∃ x : ClassId × (Nat → Nat), ∀ q : vw_C, vwCl[ci]? = some q → u_Kn s q.1 q.2.1 q.2.2 x.1 x.2 := by
    intro ci
    match ci with
    | 0 => exact kn CF_0 tw_258
    | 1 => exact kn CF_1 tw_114
    | 2 => exact kn CF_2 tw_286
    | 3 => exact kn CF_3 tw_94
    | 4 => exact kn CF_4 tw_216
    | 5 => exact kn CF_5 tw_108
    | 6 => exact kn CF_6 tw_302
    | 7 => exact kn CF_7 tw_120
    | 8 => exact kn CF_8 tw_338
    | 9 => exact kn CF_9 tw_232
    | 10 => exact kn CF_10 tw_399
    | 11 => exact kn CF_11 tw_86
    | 12 => exact kn CF_12 tw_1064
    | k + 13 => exact ⟨(0, fun _ => 0), fun q hq => absurd (List.getElem?_eq_some_iff.mp hq).1 (by show ¬ k + 13 < 13; omega)⟩
  obtain ⟨f, hf⟩ := Classical.axiomOfChoice h0
  exact ⟨(fun ci => (f ci).1, fun ci => (f ci).2), hf⟩
theorem lw_ctx {p : Program} {s : State} {m : MethodId} {meth : Method} {c : Code} {b L : Nat} {xs : Nat → Int32} (hL : L ≤ 384) (C0 : lw_At p s m meth c b L xs) : ∃ D cA, LK p s m meth c b L xs D cA := by
  obtain ⟨hx, hb, hr, hml, hown, hts, hX, hbl, hlk, hgv⟩ := id C0
  obtain ⟨D, hD⟩ := kn_at hts
  obtain ⟨cA, hA⟩ := ka_at hts
  refine ⟨D, cA, C0, ⟨hD, fun k q hq => ?_⟩, nbk_at hts, xs_at hts hgv, hL⟩
  have hm := List.mem_of_getElem? hq
  unfold TYS at hm
  obtain ⟨t, ht, rfl⟩ := List.mem_map.mp hm
  exact hA t ht
