/-! THE LAW: its own names, its steps, its calls -/
def R_law : String := "SumsThatDifferLaw"
def lw_P (b : Addr) (xs : List Int32) (args : Array Value) (s : State) : Prop := args = #[.ref b] ∧ s.IntsAt b xs ∧ xs.length ≤ 384 ∧ (Jvm.Cond.and given_1 narrow_1).before args s = true
def lw_Q (_ : Array Value) (s : State) (o : Outcome) (t : State) : Prop := o = .returned (some (.int 1)) ∧ Framed s o t [] 600000 7302250
def lw_Z (below : List Frame) (a : Array Value) (s : State) : State → Prop := fun t => ∃ o, t.status = .running ∧ Ended t below o ∧ lw_Q a s o t
/-- the law's own end, with 1 on the stack, nothing written that was there before, its room as the claim has it -/
theorem lw_ret {p : Program} {l : Launch} {e : Env} {s : State} {m : MethodId} {below : List Frame} {meth : Method} {c : Code} {b : Nat} (hx : p.tables.exec = Jvm.exec) (hb : c.code = code) (hr : meth.sig.returnType = ret) (hlocks : meth.locks = false) {pc : Nat} {H : Heap} {ls : Array Slot} (hdg : decode code pc = .ok (.ireturn, 1)) : W p l e room_1 s m #[Value.ref b] below meth c H [] 600000 7302250 (lw_Z below #[Value.ref b] s) (F0 m pc ls [.int 1]) := by
  intro T hT X
  obtain ⟨fs, hret, hrun, hended, hW, hframe⟩ := X.leave (v := some (.int 1)) (hlocks := hlocks) (fun h => by rw [hr] at h; cases h)
  have hmeth' : T.vm.method? m = some meth := X.method'
  refine ⟨T.setFrames fs, ?_, .returned (some (.int 1)), hrun, hended, rfl, ⟨_, rfl⟩, hW, hframe⟩
  jvm_step X.here [X.here.top, hx, hb, hdg, hmeth', hr, ret, narrow_b1]
  (try refine ⟨rfl, ?_⟩); (try refine ⟨rfl, ?_⟩)
  first | (intro acts; rw [hret _ acts rfl rfl rfl]) | rw [hret _ _ rfl rfl rfl]
  exact Steps.refl _
/-- what holds at the law's entry: the machine, the code, the tables' words (any of lw_tbl by 'hts w (by decide +kernel)'), the script of L ints xs at the cell b, what the Statement gives of the start (any of its parts by flat_of_before) -/
def lw_At (p : Program) (s : State) (m : MethodId) (meth : Method) (c : Code) (b L : Nat) (xs : Nat → Int32) : Prop :=
  p.tables.exec = Jvm.exec ∧ c.code = code ∧ meth.sig.returnType = ret ∧ c.maxLocals = 4 ∧ s.vm.findClass R_law = some m.cls ∧ (∀ w ∈ lw_tbl, w.before #[Value.ref b] s = true) ∧ va_X b L xs s s.heap ∧ b < s.heap.size ∧ meth.locks = false ∧ (Jvm.Cond.and given_1 narrow_1).before #[Value.ref b] s = true
abbrev AL (s : State) : Nat → Prop := fun q => s.heap.size ≤ q
def LK (p : Program) (s : State) (m : MethodId) (meth : Method) (c : Code) (b L : Nat) (xs : Nat → Int32) (D : va_G) (cA : FieldType → ClassId) : Prop := lw_At p s m meth c b L xs ∧ va_K D vwCl (TYS cA) s ∧ NBK s ∧ XS (AL s) s s.heap ∧ L ≤ 384
def LW (D : va_G) (s : State) (w wr : va_W) (H : Heap) (locs : List Loc) : Prop := va_P D vwCl (w ++ wr) H ∧ va_D (AL s) (w ++ wr) ∧ va_S (AL s) s.heap H locs
def LI (D : va_G) (cA : FieldType → ClassId) (s : State) (a1 a2 : Nat) (σ : ST) (hC hM : AH) (adC adM : Nat → Nat) (H : Heap) (locs : List Loc) : Prop := (InvS σ ∧ RepC hC σ ∧ RepM hM σ) ∧ (adC 1 = a1 ∧ adM 1 = a2) ∧ (okH hC ∧ okH hM) ∧ LW D s (wld SC cA adC hC) (wld SM cA adM hM) H locs
def LV (b a1 a2 i : Nat) (ls : Array Slot) : Prop := lv_has ls 4 [(0, .ref b), (1, .ref a1), (2, .ref a2), (3, .int (Int32.ofInt (i : Int)))]
theorem va_nd_of {l : List Nat} (h : l.Nodup) : va_nd l = true := by
  induction l with
  | nil => rfl
  | cons a l ih =>
    rw [List.nodup_cons] at h
    simp only [va_nd, Bool.and_eq_true, decide_eq_true_eq]
    exact ⟨h.1, ih h.2⟩
def isL (w : va_W) : List Nat := List.range w.length
def isR (w wr : va_W) : List Nat := (List.range wr.length).map (fun i => i + w.length)
theorem isL_ok (w wr : va_W) : (isL w).map (fun i => (w ++ wr)[i]?) = w.map some := by
  apply List.ext_getElem?
  intro k
  unfold isL
  rw [List.getElem?_map, List.getElem?_map]
  by_cases hk : k < w.length
  · rw [List.getElem?_range hk, List.getElem?_eq_getElem hk]
    simp only [Option.map_some]
    rw [List.getElem?_append_left hk, List.getElem?_eq_getElem hk]
  · rw [List.getElem?_eq_none (by simp; omega), List.getElem?_eq_none (by omega)]
    rfl
theorem isR_ok (w wr : va_W) : (isR w wr).map (fun i => (w ++ wr)[i]?) = wr.map some := by
  apply List.ext_getElem?
  intro k
  unfold isR
  rw [List.getElem?_map, List.getElem?_map, List.getElem?_map]
  by_cases hk : k < wr.length
  · rw [List.getElem?_range hk, List.getElem?_eq_getElem hk]
    simp only [Option.map_some]
    rw [List.getElem?_append_right (by omega), show k + w.length - w.length = k by omega, List.getElem?_eq_getElem hk]
  · rw [List.getElem?_eq_none (by simp; omega), List.getElem?_eq_none (by omega)]
    rfl
theorem nd_isL (w : va_W) : va_nd (isL w) = true := va_nd_of List.nodup_range
theorem nd_isR (w wr : va_W) : va_nd (isR w wr) = true := va_nd_of (List.pairwise_map.mpr ((List.nodup_range (n := wr.length)).imp (fun {a b} h => by omega)))
theorem isR_not {w wr : va_W} : ∀ i ∈ isR w wr, i ∉ isL w := by
  intro i hi hj
  obtain ⟨k, -, rfl⟩ := List.mem_map.mp hi
  have := List.mem_range.mp hj
  omega
theorem LW.swap {D : va_G} {s : State} {w wr : va_W} {H : Heap} {locs : List Loc} (h : LW D s w wr H locs) : LW D s wr w H locs := by
  obtain ⟨hP, hD, hS⟩ := h
  have key : ∀ (k : Nat) (q : Nat × va_E), (wr ++ w)[k]? = some q → ∃ j, (w ++ wr)[j]? = some q ∧ ((k < wr.length ∧ j = k + w.length) ∨ (wr.length ≤ k ∧ j = k - wr.length ∧ j < w.length)) := by
    intro k q hq
    by_cases hk : k < wr.length
    · rw [List.getElem?_append_left hk] at hq
      exact ⟨k + w.length, by rw [List.getElem?_append_right (by omega), show k + w.length - w.length = k by omega]; exact hq, Or.inl ⟨hk, rfl⟩⟩
    · rw [List.getElem?_append_right (by omega)] at hq
      have hl := (List.getElem?_eq_some_iff.mp hq).1
      exact ⟨k - wr.length, by rw [List.getElem?_append_left hl]; exact hq, Or.inr ⟨by omega, rfl, hl⟩⟩
  refine ⟨fun k q hq => ?_, ⟨fun i j x y hx hy hxy => ?_, fun k q hq => ?_⟩, hS⟩
  · obtain ⟨j, hj, -⟩ := key k q hq
    exact hP j q hj
  · obtain ⟨i', hi', ci⟩ := key i x hx
    obtain ⟨j', hj', cj⟩ := key j y hy
    have := hD.1 i' j' x y hi' hj' hxy
    omega
  · obtain ⟨j, hj, -⟩ := key k q hq
    exact hD.2 j q hj
theorem lw_pay {mi' : MI} {args : Array Value} {s : State} (hts : ∀ w ∈ lw_tbl, w.before args s = true) (hc : Cond.code mi'.1 mi'.2.1 mi'.2.2.1 mi'.2.2.2.1 ∈ TB) : ∀ w ∈ wsM mi', ∀ (a' : Array Value) (U : State), s.WarmedH U.vm → w.before a' U = true := by
  refine pay_in (big := TB) (fun w hw => hts w (List.mem_filter.mp hw).1) (fun w hw => ?_)
  rcases List.mem_cons.mp hw with rfl | hw
  · exact ⟨hc, good_of_word (List.mem_filter.mp hc).2⟩
  · exact ⟨hw, good_of_word (List.mem_filter.mp hw).2⟩
def lwOK (mi : MI) (ci n index : Nat) : Prop := (∃ T N, vwCl[ci]? = some (mi.1.cls, T, N)) ∧ Cond.instanceMethod mi.1 ∈ TB ∧ Cond.code mi.1 mi.2.1 mi.2.2.1 mi.2.2.2.1 ∈ TB ∧ Cond.initialized mi.1.cls ∈ TB ∧ (mi.1.cls ≠ "java/lang/invoke/MethodHandle" ∧ mi.1.cls ≠ "java/lang/invoke/VarHandle" ∧ nPar mi.1 = some n) ∧ (mi.2.2.2.2.frames + 1 ≤ room_1.frames ∧ 8 + (mi.2.2.1 + 11) + mi.2.2.2.2.locals ≤ room_1.locals) ∧ Cond.methodLink R_law index mi.1 ∈ TB
section LAWS
variable {p : Program} {l : Launch} {e : Env} {s : State} {m : MethodId} {below : List Frame} {meth : Method} {c : Code} {b L : Nat} {xs : Nat → Int32} {D : va_G} {cA : FieldType → ClassId} {H : Heap} {locs : List Loc} {cells slots : Nat} {Z : State → Prop} {ls : Array Slot} {rest st0 : List Value} {a1 a2 i : Nat}
/-- behind a call of the law -/
theorem lw_run {S : Sys} {pc mc ms : Nat} {ad : Nat → Nat} {h : AH} {wr : va_W} {a : Array Value} {Q' : Option AV → AH → Prop} (h1 : 1 ≤ cn h) (hw : LW D s (wld S cA ad h) wr H locs)
    (hrun : va_Run p l e room_1 s m #[Value.ref b] below meth c H locs cells slots mc ms (F0 m pc ls st0) rest (Post S D cA (va_A (wld S cA ad h) H.size) ad (cn h) Q' a) (va_A (wld S cA ad h) H.size))
    (kk : ∀ (v : Option AV) (h' : AH) (ad' : Nat → Nat) (H1 : Heap) (locs1 : List Loc), Q' v h' → ad' 1 = ad 1 → okH h' → LW D s wr (wld S cA ad' h') H1 locs1 → W p l e room_1 s m #[Value.ref b] below meth c H1 locs1 (cells + mc) (slots + ms) Z (F0 m (pc + 3) ls ((v.map (cv ad')).toList ++ rest))) :
    W p l e room_1 s m #[Value.ref b] below meth c H locs cells slots Z (F0 m pc ls st0) := by
  obtain ⟨hP, hD, hS⟩ := hw
  have hFc : ∀ q, va_A (wld S cA ad h) H.size q → AL s q := va_free hD hS (fun _ z => z) (isL _) (isL_ok _ _)
  intro T hT X1
  obtain ⟨v, st₀, t, T', Lc, h0, X', hLf, e1, e2, ⟨⟨v', h', ad', g1, g2, hv, hq, g3, g4, g5, g6, g7⟩, hz, hk⟩, stp⟩ := hrun T hT X1
  have hv' : v = v'.map (cv ad') := by cases hv; rfl
  subst hv'
  rw [h0] at hz hk
  have hS1 : va_S (AL s) s.heap T'.heap (locs ++ Lc) := ⟨Nat.le_trans hS.1 (by rw [e1]; exact hz), fun q h1 h2 => by rw [e1, hk q (Nat.lt_of_lt_of_le h1 hS.1) (fun z => h2 (hFc q z))]; exact hS.2.1 q h1 h2, fun q hq => by
      rcases List.mem_append.mp hq with h | h
      · exact hS.2.2 q h
      · exact hFc _ (hLf q h)⟩
  obtain ⟨hP1, hD1⟩ := va_join (w1 := wld S cA ad' h') hP hD (isL _) (isR _ wr) (isL_ok _ _) (isR_ok _ _) (nd_isR _ _) isR_not hk hFc g5 g6
  obtain ⟨t2, b1, b2⟩ := kk v' h' ad' T'.heap (locs ++ Lc) hq (g1 1 h1) g4 ⟨by rw [e1]; exact hP1, hD1, hS1⟩ T' rfl X'
  exact ⟨t2, stp t2 b1, b2⟩
theorem lw_callV {S : Sys} {mi : MI} {ci n index pc : Nat} (K : LK p s m meth c b L xs D cA) (hok : lwOK mi ci n index) (hse : Cond.selects mi.1.cls mi.1 mi.1 ∈ TB) (hS1 : S 1 = some (.inl ci)) {ad : Nat → Nat} {h : AH} {wr : va_W} {as : List AV} {Q' : Option AV → AH → Prop} (hw : LW D s (wld S cA ad h) wr H locs) (hH : okH h) (h1 : 1 ≤ cn h) (has : okS (cn h) as) (hlen : as.length = n) (hcat : (rest.map fun v => v.category).sum ≤ 8) (hsz : ls.size = 4) (hcs : cells + mcM mi ≤ 600000 ∧ slots + msM mi ≤ 7302250) (hA : AM S mi (.inr (.inr 1) :: as) h Q') (hst : st0 = (as.map (cv ad)).reverse ++ .ref (ad 1) :: rest) (hd : decode code pc = .ok (.invokevirtual index, 3))
    (kk : ∀ (v : Option AV) (h' : AH) (ad' : Nat → Nat) (H1 : Heap) (locs1 : List Loc), Q' v h' → ad' 1 = ad 1 → okH h' → LW D s wr (wld S cA ad' h') H1 locs1 → W p l e room_1 s m #[Value.ref b] below meth c H1 locs1 (cells + mcM mi) (slots + msM mi) Z (F0 m (pc + 3) ls ((v.map (cv ad')).toList ++ rest))) :
    W p l e room_1 s m #[Value.ref b] below meth c H locs cells slots Z (F0 m pc ls st0) := by
  obtain ⟨C0, hK, hN, hX, hL⟩ := K
  obtain ⟨hx, hb, hr, hml, hown, hts, hXs, hbl, hlk, hgv⟩ := id C0
  obtain ⟨⟨T, N, hcl⟩, hi, hco, hini, hnm, hrm, hl⟩ := hok
  have tb : ∀ {w : Cond}, w ∈ TB → w.before #[Value.ref b] s = true := fun hw => hts _ (List.mem_filter.mp hw).1
  have hPc : va_P D vwCl (wld S cA ad h) H := fun k q hk => hw.1 k q (by rw [List.getElem?_append_left (List.getElem?_eq_some_iff.mp hk).1]; exact hk)
  have hDc : va_D (AL s) (wld S cA ad h) := hw.2.1.sub (isL _) (nd_isL _) (isL_ok _ _)
  have hFc : ∀ q, va_A (wld S cA ad h) H.size q → AL s q := va_free hw.2.1 hw.2.2 (fun _ z => z) (isL _) (isL_ok _ _)
  have hat := wld_at (S := S) (cA := cA) (ad := ad) (h := h) (Nat.le_refl 1) h1
  rw [ent_obj hS1] at hat
  have hcq : cv ad (.inr (.inr 1)) = .ref (ad 1) := rv_pos (Nat.le_refl 1)
  refine lw_run h1 hw (a := (Value.ref (ad 1) :: as.map (cv ad)).toArray) (va_runV (As := as.map (cv ad)) (rest := rest) (n := n) ⟨hx, hb, hml, hown, hts⟩ (hA l D cA ad H.size hH (okS_cons.mpr ⟨h1, has⟩)) ⟨⟨rfl, rfl, hrm.1, hrm.2, lw_pay hts hco, List.mem_cons_self, tb hco, tb hini, ⟨hnm.1, hnm.2.1⟩, nPar_len hnm.2.2, tb hl⟩, tb hi, tb hse⟩ ⟨pc_blind, va_recv hK hPc hcl hat, fun U hU hW => ⟨by rw [List.map_cons, hcq], by rw [hU], by rw [hU]; exact hPc, va_K.moved hW.alike hK, hDc.weaken (fun _ _ _ _ => trivial), hN.warm hW, hX.go hw.2.2 hFc hW hU⟩⟩ rfl (by rw [List.length_map]; exact hlen) hsz hst (lv_room hcat) hd hcs) kk
theorem lw_callI {S : Sys} {mi : MI} {ci n index pc : Nat} (K : LK p s m meth c b L xs D cA) (hok : lwOK mi ci n index) (hin : mi.1.name = "<init>") (hrn : mi.2.2.2.1 = none) {ad : Nat → Nat} {h : AH} {wr : va_W} {as : List AV} {Q' : Option AV → AH → Prop} (hw : LW D s (wld S cA ad h) wr H locs) (hH : okH h) (h1 : 1 ≤ cn h) (has : okS (cn h) as) (hlen : as.length = n) (hcat : (rest.map fun v => v.category).sum ≤ 8) (hsz : ls.size = 4) (hcs : cells + mcM mi ≤ 600000 ∧ slots + msM mi ≤ 7302250) (hA : AM S mi (.inr (.inr 1) :: as) h Q') (hst : st0 = (as.map (cv ad)).reverse ++ .ref (ad 1) :: rest) (hd : decode code pc = .ok (.invokespecial index, 3))
    (kk : ∀ (v : Option AV) (h' : AH) (ad' : Nat → Nat) (H1 : Heap) (locs1 : List Loc), Q' v h' → ad' 1 = ad 1 → okH h' → LW D s wr (wld S cA ad' h') H1 locs1 → W p l e room_1 s m #[Value.ref b] below meth c H1 locs1 (cells + mcM mi) (slots + msM mi) Z (F0 m (pc + 3) ls ((v.map (cv ad')).toList ++ rest))) :
    W p l e room_1 s m #[Value.ref b] below meth c H locs cells slots Z (F0 m pc ls st0) := by
  obtain ⟨C0, hK, hN, hX, hL⟩ := K
  obtain ⟨hx, hb, hr, hml, hown, hts, hXs, hbl, hlk, hgv⟩ := id C0
  obtain ⟨⟨T, N, hcl⟩, hi, hco, hini, hnm, hrm, hl⟩ := hok
  have tb : ∀ {w : Cond}, w ∈ TB → w.before #[Value.ref b] s = true := fun hw => hts _ (List.mem_filter.mp hw).1
  have hPc : va_P D vwCl (wld S cA ad h) H := fun k q hk => hw.1 k q (by rw [List.getElem?_append_left (List.getElem?_eq_some_iff.mp hk).1]; exact hk)
  have hDc : va_D (AL s) (wld S cA ad h) := hw.2.1.sub (isL _) (nd_isL _) (isL_ok _ _)
  have hFc : ∀ q, va_A (wld S cA ad h) H.size q → AL s q := va_free hw.2.1 hw.2.2 (fun _ z => z) (isL _) (isL_ok _ _)
  have hcq : cv ad (.inr (.inr 1)) = .ref (ad 1) := rv_pos (Nat.le_refl 1)
  refine lw_run h1 hw (a := (Value.ref (ad 1) :: as.map (cv ad)).toArray) (va_runI (As := as.map (cv ad)) (rest := rest) (n := n) ⟨hx, hb, hml, hown, hts⟩ (hA l D cA ad H.size hH (okS_cons.mpr ⟨h1, has⟩)) ⟨⟨rfl, rfl, hrm.1, hrm.2, lw_pay hts hco, (by rw [← hrn]; exact List.mem_cons_self), (by have := tb hco; rw [hrn] at this; exact this), tb hini, ⟨hnm.1, hnm.2.1⟩, nPar_len hnm.2.2, tb hl⟩, hin, tb hi⟩ ⟨pc_blind, fun U hU hW => ⟨by rw [List.map_cons, hcq], by rw [hU], by rw [hU]; exact hPc, va_K.moved hW.alike hK, hDc.weaken (fun _ _ _ _ => trivial), hN.warm hW, hX.go hw.2.2 hFc hW hU⟩⟩ rfl (by rw [List.length_map]; exact hlen) hsz hst (lv_room hcat) hd hcs) kk
/-- the law's letters, as numbers -/
def XI (xs : Nat → Int32) (j : Nat) : Int := (xs j).toInt
def ZI (xs : Nat → Int32) (j : Nat) : Int := if XI xs j = 0 then 0 else 1
theorem XI_of (xs : Nat → Int32) (j : Nat) : Int32.ofInt (XI xs j) = xs j := Int32.ofInt_toInt _
theorem ok32_XI (xs : Nat → Int32) (j : Nat) : ok32 (XI xs j) := ok32_toInt _
theorem ZI_01 (xs : Nat → Int32) (j : Nat) : ZI xs j = 0 ∨ ZI xs j = 1 := by unfold ZI; split <;> omega
theorem ok32_ZI (xs : Nat → Int32) (j : Nat) : ok32 (ZI xs j) := by unfold ok32; rcases ZI_01 xs j with h | h <;> rw [h] <;> omega
theorem lw_arg {k pc : Nat} {n : Int} (K : LK p s m meth c b L xs D cA) (hS : va_S (AL s) s.heap H locs) (hl : LV b a1 a2 i ls) (hi : i + 6 ≤ L) (hk : k ≤ 5) (hn : n = (k : Int))
    (d0 : decode code pc = .ok (.aload_n 0, 1)) (d1 : decode code (pc + 1) = .ok (.iload_n 3, 1)) (d2 : decode code (pc + 1 + 1) = .ok (.iconst n, 1)) (d3 : decode code (pc + 1 + 1 + 1) = .ok (.iadd, 1)) (d4 : decode code (pc + 1 + 1 + 1 + 1) = .ok (.iaload, 1))
    (kk : W p l e room_1 s m #[Value.ref b] below meth c H locs cells slots Z (F0 m (pc + 5) ls (.int (Int32.ofInt (XI xs (i + k))) :: rest))) :
    W p l e room_1 s m #[Value.ref b] below meth c H locs cells slots Z (F0 m pc ls rest) := by
  obtain ⟨C0, -, -, -, hL⟩ := K
  obtain ⟨hx, hb, hr, hml, hown, hts, hX, hbl, hlk, hgv⟩ := id C0
  have hbA : ¬ (AL s) b := Nat.not_le.mpr hbl
  have o1 : ok32 ((i + k : Nat) : Int) := by unfold ok32; omega
  have e1 : Int32.ofInt (i : Int) + Int32.ofInt n = Int32.ofInt ((i + k : Nat) : Int) := by rw [hn, i32_add, wr_id (by omega) (by omega), Int.natCast_add]
  refine lv_aload_n hx hb d0 rfl (lv_at hl 0 rfl) ?_
  refine lv_iload_n hx hb d1 rfl (lv_at hl 3 rfl) ?_
  refine lv_iconst (v := Int32.ofInt n) hx hb d2 rfl ?_
  refine lv_iadd hx hb d3 ?_
  rw [e1]
  refine va_sld hx hb hX hbl hbA hS (i32_in o1 (by omega) (by omega)) d4 ?_
  rw [i32_nat (by omega) o1, Int.toNat_natCast, ← XI_of xs (i + k)]
  exact kk
/-- a letter as a yes or no -/
theorem lw_argz {k pc : Nat} {n : Int} (K : LK p s m meth c b L xs D cA) (hS : va_S (AL s) s.heap H locs) (hl : LV b a1 a2 i ls) (hi : i + 6 ≤ L) (hk : k ≤ 5) (hn : n = (k : Int))
    (d0 : decode code pc = .ok (.aload_n 0, 1)) (d1 : decode code (pc + 1) = .ok (.iload_n 3, 1)) (d2 : decode code (pc + 1 + 1) = .ok (.iconst n, 1)) (d3 : decode code (pc + 1 + 1 + 1) = .ok (.iadd, 1)) (d4 : decode code (pc + 1 + 1 + 1 + 1) = .ok (.iaload, 1))
    (d5 : decode code (pc + 5) = .ok (.ifCond .eq 7, 3)) (d6 : decode code (pc + 8) = .ok (.iconst 1, 1)) (d7 : decode code (pc + 9) = .ok (.goto 4, 3)) (d8 : decode code (pc + 12) = .ok (.iconst 0, 1))
    (kk : W p l e room_1 s m #[Value.ref b] below meth c H locs cells slots Z (F0 m (pc + 13) ls (.int (Int32.ofInt (ZI xs (i + k))) :: rest))) :
    W p l e room_1 s m #[Value.ref b] below meth c H locs cells slots Z (F0 m pc ls rest) := by
  obtain ⟨hx, hb, -⟩ := id K.1
  refine lw_arg K hS hl hi hk hn d0 d1 d2 d3 d4 ?_
  have e0 := i32_eq (ok32_XI xs (i + k)) ok32_0
  rw [i32_zero] at e0
  refine lv_if_eq (tgt := pc + 12) hx hb d5 (by omega) (fun q => ?_) (fun q => ?_)
  · have z : ZI xs (i + k) = 0 := by unfold ZI; rw [if_pos (e0.mp q)]
    refine lv_iconst (v := Int32.ofInt 0) hx hb d8 rfl ?_
    rw [z] at kk
    exact kk
  · have z : ZI xs (i + k) = 1 := by unfold ZI; rw [if_neg (fun y => q (e0.mpr y))]
    refine lv_iconst (v := Int32.ofInt 1) hx hb d6 rfl ?_
    refine lv_goto (tgt := pc + 13) hx hb d7 (by omega) ?_
    rw [z] at kk
    exact kk
theorem cnC1 {h : AH} {σ : ST} (hR : RepC h σ) : 1 ≤ cn h := by
  obtain ⟨k, w, tx, tl, td, tn, pa, un, ke, kn⟩ := σ
  have := hR.1.1.1
  omega
theorem cnM1 {h : AH} {σ : ST} (hR : RepM h σ) : 1 ≤ cn h := by
  obtain ⟨k, w, tx, tl, td, tn, pa, un, ke, kn⟩ := σ
  have := hR.1.1.1
  omega
theorem lw_two {mC mM : MI} {is : List Int} {iC iM n pcC pcM : Nat} {off : Int} {σ : ST} {hC hM : AH} {adC adM : Nat → Nat} (K : LK p s m meth c b L xs D cA) (hI : LI D cA s a1 a2 σ hC hM adC adM H locs) (hl : LV b a1 a2 i ls) (hcs : cells ≤ 600000 ∧ slots ≤ 7302250) (oC : lwOK mC 11 n iC) (oM : lwOK mM 12 n iM) (sC : Cond.selects mC.1.cls mC.1 mC.1 ∈ TB) (sM : Cond.selects mM.1.cls mM.1 mM.1 ∈ TB) (z : (mcM mC = 0 ∧ msM mC = 0) ∧ mcM mM = 0 ∧ msM mM = 0) (hlen : is.length = n) (h32 : ∀ x ∈ is, ok32 x) (hp : Pair mC mM (is.map .inl) hC hM)
    (dC : decode code pcC = .ok (.invokevirtual iC, 3)) (dM : decode code pcM = .ok (.invokevirtual iM, 3)) (d3 : decode code (pcM + 3) = .ok (.if_icmp .eq off, 3)) (ht : ((pcM + 3 : Nat) : Int) + off = ((880 : Nat) : Int))
    (mid : ∀ (H' : Heap) (locs' : List Loc) (rest : List Value), va_S (AL s) s.heap H' locs' → W p l e room_1 s m #[Value.ref b] below meth c H' locs' cells slots Z (F0 m pcM ls ((is.map (fun x => Value.int (Int32.ofInt x))).reverse ++ .ref a2 :: rest)) → W p l e room_1 s m #[Value.ref b] below meth c H' locs' cells slots Z (F0 m (pcC + 3) ls rest))
    (kont : ∀ (σ' : ST) (hC' hM' : AH) (adC' adM' : Nat → Nat) (H' : Heap) (locs' : List Loc), LI D cA s a1 a2 σ' hC' hM' adC' adM' H' locs' → W p l e room_1 s m #[Value.ref b] below meth c H' locs' cells slots Z (F0 m 880 ls [])) :
    W p l e room_1 s m #[Value.ref b] below meth c H locs cells slots Z (F0 m pcC ls ((is.map (fun x => Value.int (Int32.ofInt x))).reverse ++ [.ref a1])) := by
  obtain ⟨hx, hb, -⟩ := id K.1
  obtain ⟨r, PC, PM, cC, cM, σ', iv, fC, fM⟩ := hp
  obtain ⟨⟨-, hrC, hrM⟩, ⟨ha1, ha2⟩, hokH, hw⟩ := hI
  obtain ⟨⟨z1, z2⟩, z3, z4⟩ := z
  have mm : ∀ (ad : Nat → Nat), (is.map Sum.inl : List AV).map (cv ad) = is.map (fun x => Value.int (Int32.ofInt x)) := fun ad => by rw [List.map_map]; rfl
  have h32' : ∀ n, okS n (is.map Sum.inl : List AV) := fun n v hv => by
    obtain ⟨x, hx, rfl⟩ := List.mem_map.mp hv
    exact h32 x hx
  refine lw_callV (rest := []) K oC sC rfl hw hokH.1 (cnC1 hrC) (h32' _) (by rw [List.length_map]; exact hlen) (Nat.le_of_ble_eq_true rfl) hl.1 (by rw [z1, z2]; exact hcs) cC (by rw [mm, ha1]) dC (fun v h' ad' H1 locs1 hq ha hH' hw1 => ?_)
  obtain ⟨rfl, hq⟩ := hq
  rw [z1, z2]
  refine mid H1 locs1 [.int (Int32.ofInt r)] hw1.2.2 ?_
  refine lw_callV (rest := [.int (Int32.ofInt r)]) K oM sM rfl hw1 hokH.2 (cnM1 hrM) (h32' _) (by rw [List.length_map]; exact hlen) (Nat.le_of_ble_eq_true rfl) hl.1 (by rw [z3, z4]; exact hcs) cM (by rw [mm, ha2]) dM (fun v2 h2 ad2 H2 locs2 hq2 hb2 hH2 hw2 => ?_)
  obtain ⟨rfl, hq2⟩ := hq2
  rw [z3, z4]
  refine lv_icmp_eq (tgt := 880) hx hb d3 ht (fun _ => ?_) (fun z => absurd rfl z)
  exact kont σ' h' h2 ad' ad2 H2 locs2 ⟨⟨iv, fC _ hq, fM _ hq2⟩, ⟨ha.trans ha1, hb2.trans ha2⟩, ⟨hH', hH2⟩, hw2⟩
end LAWS
