/-! THE LAW: from its entry -/
/-- YOUR PART: from the entry, for every script of at most 384 ints, the law comes to its end with true ('hflags': the launch's flags, for a law that throws: no stack traces) -/
theorem whole_start {p : Program} {e : Env} {s : State} {m : MethodId} {below : List Frame} {meth : Method} {c : Code} (l : Launch) (hflags : l.flags = flags0) {b L : Nat} {xs : Nat → Int32} (hL : L ≤ 384) (C0 : lw_At p s m meth c b L xs) : W p l e room_1 s m #[Value.ref b] below meth c s.heap [] 0 0 (lw_Z below #[Value.ref b] s) (entryFrame m ([Value.ref b] : List Value).toArray 4) := by
  obtain ⟨hx, hb, hr, hml, hown, hts, hX, hbl, hlk, hgv⟩ := id C0
  obtain ⟨D, cA, K⟩ := lw_ctx hL C0
  have hw0 : LW D s [] [] s.heap [] := ⟨fun k q h => by simp at h, ⟨fun i j p q h => by simp at h, fun k q h => by simp at h⟩, va_S.rf⟩
  have hl := lv_entry ([.ref b]) (n := 4) (Nat.le_of_ble_eq_true rfl)
  rw [lg_entry_eq]
  generalize (lg_sl ([.ref b]) ++ List.replicate (4 - (lg_sl ([.ref b])).length) Slot.unset).toArray = ls at hl ⊢
  have hl : lv_has ls 4 [(0, .ref b)] := hl
  refine lw_new (wr := []) (S := SC) K CF_11 (by decide +kernel) rfl tw_85 tw_86 tw_64 hw0 ⟨Nat.le_of_ble_eq_true rfl, Nat.le_of_ble_eq_true rfl⟩ dl_0 (fun q H1 hw1 => ?_)
  refine lv_dup hx hb dl_3 rfl ?_
  refine lw_callI (S := SC) (as := []) (rest := [.ref q]) (ad := fun _ => q) (h := hz1) (Q' := fun v h' => v = none ∧ RepC h' st0) K oL_Su_init rfl rfl hw1 okH_hz1 (by decide) (fun _ h => by cases h) rfl (Nat.le_of_ble_eq_true rfl) hl.1 ⟨Nat.le_of_ble_eq_true rfl, Nat.le_of_ble_eq_true rfl⟩ (s_Su_init (fun h' hR => ⟨rfl, hR⟩)) rfl dl_4 (fun v h' ad' H2 locs2 hq ha hH hw2 => ?_)
  obtain ⟨rfl, hRC⟩ := hq
  refine lv_astore_n (x := q) (lv' := [(1, .ref q), (0, .ref b)]) hx hb dl_7 rfl hl (by decide) rfl (fun ls hl => ?_)
  refine lw_new (wr := wld SC cA ad' h') (S := SM) K CF_12 (by decide +kernel) rfl tw_1063 tw_1064 tw_81 hw2 ⟨Nat.le_of_ble_eq_true rfl, Nat.le_of_ble_eq_true rfl⟩ dl_8 (fun q2 H3 hw3 => ?_)
  refine lv_dup hx hb dl_11 rfl ?_
  refine lw_callI (S := SM) (as := []) (rest := [.ref q2]) (ad := fun _ => q2) (h := hz1) (Q' := fun v h' => v = none ∧ RepM h' st0) K oL_Mo_init rfl rfl hw3 okH_hz1 (by decide) (fun _ h => by cases h) rfl (Nat.le_of_ble_eq_true rfl) hl.1 ⟨Nat.le_of_ble_eq_true rfl, Nat.le_of_ble_eq_true rfl⟩ (s_Mo_init (fun h' hR => ⟨rfl, hR⟩)) rfl dl_12 (fun v2 h2 ad2 H4 locs4 hq2 ha2 hH2 hw4 => ?_)
  obtain ⟨rfl, hRM⟩ := hq2
  refine lv_astore_n (x := q2) (lv' := [(2, .ref q2), (1, .ref q), (0, .ref b)]) hx hb dl_15 rfl hl (by decide) rfl (fun ls hl => ?_)
  refine lv_iconst (v := Int32.ofInt ((0 : Nat) : Int)) hx hb dl_16 rfl ?_
  refine lv_istore_n (lv' := [(3, .int (Int32.ofInt ((0 : Nat) : Int))), (2, .ref q2), (1, .ref q), (0, .ref b)]) hx hb dl_17 rfl hl (by decide) rfl (fun ls hl => ?_)
  exact lw_loop K ⟨Nat.le_of_ble_eq_true rfl, Nat.le_of_ble_eq_true rfl⟩ (L + 1) 0 st0 h' h2 ad' ad2 H4 locs4 ls (Nat.zero_le L) (by omega) ⟨⟨inv_st0, hRC, hRM⟩, ⟨ha, ha2⟩, ⟨hH, hH2⟩, hw4⟩ (lv_sub hl [3, 2, 1, 0] rfl)
