def c_Su_write : List (List Op) := [
  [op_iload 1, op_ci (32), op_iclt 1, op_iload 1, op_ci (126), op_icle 2, op_goto 1],
  [op_ci (-1), op_iret],
  [op_aload 0, op_getr SC 11 0, op_iload 1, op_i2c, op_invV SC m_Le_append 3 1, op_ifeq 3, op_aload 0, op_getr SC 11 0, op_invV SC m_Le_length 3 0, op_goto 4],
  [op_ci (-3), op_goto 4],
  [op_iret]]
def t_Su_write : Nat → Nat := fun t => [0, 12, 14, 36, 38].getD t 0
set_option maxRecDepth 100000 in
theorem ok_Su_write : MOK SC m_Su_write c_Su_write t_Su_write := fun t => match t with
  | 0 => ⟨_, so_iload_n (i := 1) (k := 1) (by decide +kernel) rfl,
    ⟨_, so_bipush (n := (32)) (by decide +kernel) (by decide +kernel) ⟨by decide, by decide⟩,
    ⟨_, so_iclt (t := 1) (off := 9) (by decide +kernel) rfl,
    ⟨_, so_iload_n (i := 1) (k := 1) (by decide +kernel) rfl,
    ⟨_, so_bipush (n := (126)) (by decide +kernel) (by decide +kernel) ⟨by decide, by decide⟩,
    ⟨_, so_icle (t := 2) (off := 5) (by decide +kernel) rfl,
    ⟨_, so_fall (pc' := 0) (t := 1) rfl,
    trivial⟩⟩⟩⟩⟩⟩⟩
  | 1 => ⟨_, so_iconst (n := (-1)) (by decide +kernel) ⟨by decide, by decide⟩,
    ⟨_, so_iret (pc' := 0) rfl (by decide +kernel),
    trivial⟩⟩
  | 2 => ⟨_, so_aload_n (i := 0) (k := 0) (by decide +kernel) rfl,
    ⟨_, so_getr (ci := 11) (k := 0) (index := 10) rfl CF_11 (by decide +kernel) (fun _ _ _ => rfl) tw_565 rfl (by decide +kernel),
    ⟨_, so_iload_n (i := 1) (k := 1) (by decide +kernel) rfl,
    ⟨_, so_i2c (by decide +kernel),
    ⟨_, so_invV (mi' := m_Le_append) (ci := 3) (n := 1) (index := 98) rfl rfl tw_469 tw_470 ⟨tw_471, tw_65, ⟨by decide +kernel, by decide +kernel, by decide +kernel⟩, by decide +kernel⟩ tw_468 (by decide +kernel),
    ⟨_, so_ifeq (t := 3) (off := 13) (by decide +kernel) rfl,
    ⟨_, so_aload_n (i := 0) (k := 0) (by decide +kernel) rfl,
    ⟨_, so_getr (ci := 11) (k := 0) (index := 10) rfl CF_11 (by decide +kernel) (fun _ _ _ => rfl) tw_565 rfl (by decide +kernel),
    ⟨_, so_invV (mi' := m_Le_length) (ci := 3) (n := 0) (index := 109) rfl rfl tw_477 tw_478 ⟨tw_479, tw_65, ⟨by decide +kernel, by decide +kernel, by decide +kernel⟩, by decide +kernel⟩ tw_476 (by decide +kernel),
    ⟨_, so_goto (pc' := 0) (t := 4) (off := 5) (by decide +kernel) rfl,
    trivial⟩⟩⟩⟩⟩⟩⟩⟩⟩⟩
  | 3 => ⟨_, so_bipush (n := (-3)) (by decide +kernel) (by decide +kernel) ⟨by decide, by decide⟩,
    ⟨_, so_fall (pc' := 0) (t := 4) rfl,
    trivial⟩⟩
  | 4 => ⟨_, so_iret (pc' := 0) rfl (by decide +kernel),
    trivial⟩
  | _ + 5 => trivial
def c_Su_wipe : List (List Op) := [
  [op_aload 0, op_getr SC 11 0, op_invV SC m_Le_length 3 0, op_istore 1, op_aload 0, op_getr SC 11 0, op_invV SC m_Le_clear 3 0, op_iload 1, op_iret]]
def t_Su_wipe : Nat → Nat := fun t => [0].getD t 0
set_option maxRecDepth 100000 in
theorem ok_Su_wipe : MOK SC m_Su_wipe c_Su_wipe t_Su_wipe := fun t => match t with
  | 0 => ⟨_, so_aload_n (i := 0) (k := 0) (by decide +kernel) rfl,
    ⟨_, so_getr (ci := 11) (k := 0) (index := 10) rfl CF_11 (by decide +kernel) (fun _ _ _ => rfl) tw_565 rfl (by decide +kernel),
    ⟨_, so_invV (mi' := m_Le_length) (ci := 3) (n := 0) (index := 109) rfl rfl tw_477 tw_478 ⟨tw_479, tw_65, ⟨by decide +kernel, by decide +kernel, by decide +kernel⟩, by decide +kernel⟩ tw_476 (by decide +kernel),
    ⟨_, so_istore_n (i := 1) (k := 1) (by decide +kernel) rfl (by decide +kernel),
    ⟨_, so_aload_n (i := 0) (k := 0) (by decide +kernel) rfl,
    ⟨_, so_getr (ci := 11) (k := 0) (index := 10) rfl CF_11 (by decide +kernel) (fun _ _ _ => rfl) tw_565 rfl (by decide +kernel),
    ⟨_, so_invV (mi' := m_Le_clear) (ci := 3) (n := 0) (index := 106) rfl rfl tw_562 tw_563 ⟨tw_564, tw_65, ⟨by decide +kernel, by decide +kernel, by decide +kernel⟩, by decide +kernel⟩ tw_561 (by decide +kernel),
    ⟨_, so_iload_n (i := 1) (k := 1) (by decide +kernel) rfl,
    ⟨_, so_iret (pc' := 0) rfl (by decide +kernel),
    trivial⟩⟩⟩⟩⟩⟩⟩⟩⟩
  | _ + 1 => trivial
def c_Su_fault : List (List Op) := [
  [op_aload 0, op_getr SC 11 1, op_aload 0, op_getr SC 11 0, op_invV SC m_Re_firstFault 5 1, op_iret]]
def t_Su_fault : Nat → Nat := fun t => [0].getD t 0
set_option maxRecDepth 100000 in
theorem ok_Su_fault : MOK SC m_Su_fault c_Su_fault t_Su_fault := fun t => match t with
  | 0 => ⟨_, so_aload_n (i := 0) (k := 0) (by decide +kernel) rfl,
    ⟨_, so_getr (ci := 11) (k := 1) (index := 19) rfl CF_11 (by decide +kernel) (fun _ _ _ => rfl) tw_566 rfl (by decide +kernel),
    ⟨_, so_aload_n (i := 0) (k := 0) (by decide +kernel) rfl,
    ⟨_, so_getr (ci := 11) (k := 0) (index := 10) rfl CF_11 (by decide +kernel) (fun _ _ _ => rfl) tw_565 rfl (by decide +kernel),
    ⟨_, so_invV (mi' := m_Re_firstFault) (ci := 5) (n := 1) (index := 110) rfl rfl tw_481 tw_482 ⟨tw_483, tw_66, ⟨by decide +kernel, by decide +kernel, by decide +kernel⟩, by decide +kernel⟩ tw_480 (by decide +kernel),
    ⟨_, so_iret (pc' := 0) rfl (by decide +kernel),
    trivial⟩⟩⟩⟩⟩⟩
  | _ + 1 => trivial
def c_Su_lay : List (List Op) := [
  [op_aload 0, op_invV SC m_Su_layLetters 11 0, op_ifeq 1, op_aload 0, op_getr SC 11 2, op_invV SC m_Co_roads 1 0, op_goto 2],
  [op_ci (-2), op_goto 2],
  [op_iret]]
def t_Su_lay : Nat → Nat := fun t => [0, 17, 19].getD t 0
set_option maxRecDepth 100000 in
theorem ok_Su_lay : MOK SC m_Su_lay c_Su_lay t_Su_lay := fun t => match t with
  | 0 => ⟨_, so_aload_n (i := 0) (k := 0) (by decide +kernel) rfl,
    ⟨_, so_invV (mi' := m_Su_layLetters) (ci := 11) (n := 0) (index := 102) rfl rfl tw_474 tw_0 ⟨tw_475, tw_64, ⟨by decide +kernel, by decide +kernel, by decide +kernel⟩, by decide +kernel⟩ tw_472 (by decide +kernel),
    ⟨_, so_ifeq (t := 1) (off := 13) (by decide +kernel) rfl,
    ⟨_, so_aload_n (i := 0) (k := 0) (by decide +kernel) rfl,
    ⟨_, so_getr (ci := 11) (k := 2) (index := 26) rfl CF_11 (by decide +kernel) (fun _ _ _ => rfl) tw_567 rfl (by decide +kernel),
    ⟨_, so_invV (mi' := m_Co_roads) (ci := 1) (n := 0) (index := 114) rfl rfl tw_617 tw_618 ⟨tw_619, tw_67, ⟨by decide +kernel, by decide +kernel, by decide +kernel⟩, by decide +kernel⟩ tw_616 (by decide +kernel),
    ⟨_, so_goto (pc' := 0) (t := 2) (off := 5) (by decide +kernel) rfl,
    trivial⟩⟩⟩⟩⟩⟩⟩
  | 1 => ⟨_, so_bipush (n := (-2)) (by decide +kernel) (by decide +kernel) ⟨by decide, by decide⟩,
    ⟨_, so_fall (pc' := 0) (t := 2) rfl,
    trivial⟩⟩
  | 2 => ⟨_, so_iret (pc' := 0) rfl (by decide +kernel),
    trivial⟩
  | _ + 3 => trivial
def c_Su_road : List (List Op) := [
  [op_aload 0, op_getr SC 11 2, op_iload 1, op_invV SC m_Co_hasRoad 1 1, op_ifne 1, op_ci (-1), op_iret],
  [op_iload 2, op_table (0) [2, 3, 4, 5, 6, 7] 10],
  [op_aload 0, op_getr SC 11 2, op_iload 1, op_invV SC m_Co_kindOf 1 1, op_iret],
  [op_aload 0, op_getr SC 11 2, op_iload 1, op_invV SC m_Co_startOf 1 1, op_iret],
  [op_aload 0, op_getr SC 11 2, op_iload 1, op_invV SC m_Co_endOf 1 1, op_iret],
  [op_aload 0, op_getr SC 11 2, op_getr SC 1 0, op_getr SC 7 4, op_iload 1, op_iald SC, op_iret],
  [op_aload 0, op_getr SC 11 2, op_getr SC 1 0, op_getr SC 7 5, op_iload 1, op_iald SC, op_iret],
  [op_aload 0, op_getr SC 11 2, op_getr SC 1 0, op_iload 1, op_invV SC m_St_isShut 7 1, op_ifeq 8, op_ci (1), op_goto 9],
  [op_ci (0), op_goto 9],
  [op_iret],
  [op_ci (-1), op_iret]]
def t_Su_road : Nat → Nat := fun t => [0, 13, 52, 61, 70, 79, 92, 105, 123, 124, 125].getD t 0
set_option maxRecDepth 100000 in
theorem ok_Su_road : MOK SC m_Su_road c_Su_road t_Su_road := fun t => match t with
  | 0 => ⟨_, so_aload_n (i := 0) (k := 0) (by decide +kernel) rfl,
    ⟨_, so_getr (ci := 11) (k := 2) (index := 26) rfl CF_11 (by decide +kernel) (fun _ _ _ => rfl) tw_567 rfl (by decide +kernel),
    ⟨_, so_iload_n (i := 1) (k := 1) (by decide +kernel) rfl,
    ⟨_, so_invV (mi' := m_Co_hasRoad) (ci := 1) (n := 1) (index := 117) rfl rfl tw_538 tw_539 ⟨tw_540, tw_67, ⟨by decide +kernel, by decide +kernel, by decide +kernel⟩, by decide +kernel⟩ tw_624 (by decide +kernel),
    ⟨_, so_ifne (t := 1) (off := 5) (by decide +kernel) rfl,
    ⟨_, so_iconst (n := (-1)) (by decide +kernel) ⟨by decide, by decide⟩,
    ⟨_, so_iret (pc' := 0) rfl (by decide +kernel),
    trivial⟩⟩⟩⟩⟩⟩⟩
  | 1 => ⟨_, so_iload_n (i := 2) (k := 2) (by decide +kernel) rfl,
    ⟨_, so_table (pc' := 0) (lo := 0) (ts := [2, 3, 4, 5, 6, 7]) (d := 10) (hi := 5) (dflt := 111) (offs := #[38, 47, 56, 65, 78, 91]) (len := 38) (by decide +kernel) rfl (by decide +kernel) rfl,
    trivial⟩⟩
  | 2 => ⟨_, so_aload_n (i := 0) (k := 0) (by decide +kernel) rfl,
    ⟨_, so_getr (ci := 11) (k := 2) (index := 26) rfl CF_11 (by decide +kernel) (fun _ _ _ => rfl) tw_567 rfl (by decide +kernel),
    ⟨_, so_iload_n (i := 1) (k := 1) (by decide +kernel) rfl,
    ⟨_, so_invV (mi' := m_Co_kindOf) (ci := 1) (n := 1) (index := 121) rfl rfl tw_626 tw_627 ⟨tw_628, tw_67, ⟨by decide +kernel, by decide +kernel, by decide +kernel⟩, by decide +kernel⟩ tw_625 (by decide +kernel),
    ⟨_, so_iret (pc' := 0) rfl (by decide +kernel),
    trivial⟩⟩⟩⟩⟩
  | 3 => ⟨_, so_aload_n (i := 0) (k := 0) (by decide +kernel) rfl,
    ⟨_, so_getr (ci := 11) (k := 2) (index := 26) rfl CF_11 (by decide +kernel) (fun _ _ _ => rfl) tw_567 rfl (by decide +kernel),
    ⟨_, so_iload_n (i := 1) (k := 1) (by decide +kernel) rfl,
    ⟨_, so_invV (mi' := m_Co_startOf) (ci := 1) (n := 1) (index := 125) rfl rfl tw_630 tw_631 ⟨tw_632, tw_67, ⟨by decide +kernel, by decide +kernel, by decide +kernel⟩, by decide +kernel⟩ tw_629 (by decide +kernel),
    ⟨_, so_iret (pc' := 0) rfl (by decide +kernel),
    trivial⟩⟩⟩⟩⟩
  | 4 => ⟨_, so_aload_n (i := 0) (k := 0) (by decide +kernel) rfl,
    ⟨_, so_getr (ci := 11) (k := 2) (index := 26) rfl CF_11 (by decide +kernel) (fun _ _ _ => rfl) tw_567 rfl (by decide +kernel),
    ⟨_, so_iload_n (i := 1) (k := 1) (by decide +kernel) rfl,
    ⟨_, so_invV (mi' := m_Co_endOf) (ci := 1) (n := 1) (index := 128) rfl rfl tw_634 tw_635 ⟨tw_636, tw_67, ⟨by decide +kernel, by decide +kernel, by decide +kernel⟩, by decide +kernel⟩ tw_633 (by decide +kernel),
    ⟨_, so_iret (pc' := 0) rfl (by decide +kernel),
    trivial⟩⟩⟩⟩⟩
  | 5 => ⟨_, so_aload_n (i := 0) (k := 0) (by decide +kernel) rfl,
    ⟨_, so_getr (ci := 11) (k := 2) (index := 26) rfl CF_11 (by decide +kernel) (fun _ _ _ => rfl) tw_567 rfl (by decide +kernel),
    ⟨_, so_getrN (ci := 1) (k := 0) (index := 131) rfl CF_1 (by decide +kernel) (fun _ _ _ => rfl) tw_173 rfl (by decide +kernel),
    ⟨_, so_getrN (ci := 7) (k := 4) (index := 135) rfl CF_7 (by decide +kernel) (fun _ _ _ => rfl) tw_148 rfl (by decide +kernel),
    ⟨_, so_iload_n (i := 1) (k := 1) (by decide +kernel) rfl,
    ⟨_, so_iald rfl (by decide +kernel),
    ⟨_, so_iret (pc' := 0) rfl (by decide +kernel),
    trivial⟩⟩⟩⟩⟩⟩⟩
  | 6 => ⟨_, so_aload_n (i := 0) (k := 0) (by decide +kernel) rfl,
    ⟨_, so_getr (ci := 11) (k := 2) (index := 26) rfl CF_11 (by decide +kernel) (fun _ _ _ => rfl) tw_567 rfl (by decide +kernel),
    ⟨_, so_getrN (ci := 1) (k := 0) (index := 131) rfl CF_1 (by decide +kernel) (fun _ _ _ => rfl) tw_173 rfl (by decide +kernel),
    ⟨_, so_getrN (ci := 7) (k := 5) (index := 141) rfl CF_7 (by decide +kernel) (fun _ _ _ => rfl) tw_152 rfl (by decide +kernel),
    ⟨_, so_iload_n (i := 1) (k := 1) (by decide +kernel) rfl,
    ⟨_, so_iald rfl (by decide +kernel),
    ⟨_, so_iret (pc' := 0) rfl (by decide +kernel),
    trivial⟩⟩⟩⟩⟩⟩⟩
  | 7 => ⟨_, so_aload_n (i := 0) (k := 0) (by decide +kernel) rfl,
    ⟨_, so_getr (ci := 11) (k := 2) (index := 26) rfl CF_11 (by decide +kernel) (fun _ _ _ => rfl) tw_567 rfl (by decide +kernel),
    ⟨_, so_getrN (ci := 1) (k := 0) (index := 131) rfl CF_1 (by decide +kernel) (fun _ _ _ => rfl) tw_173 rfl (by decide +kernel),
    ⟨_, so_iload_n (i := 1) (k := 1) (by decide +kernel) rfl,
    ⟨_, so_invV (mi' := m_St_isShut) (ci := 7) (n := 1) (index := 144) rfl rfl tw_638 tw_639 ⟨tw_640, tw_68, ⟨by decide +kernel, by decide +kernel, by decide +kernel⟩, by decide +kernel⟩ tw_637 (by decide +kernel),
    ⟨_, so_ifeq (t := 8) (off := 7) (by decide +kernel) rfl,
    ⟨_, so_iconst (n := (1)) (by decide +kernel) ⟨by decide, by decide⟩,
    ⟨_, so_goto (pc' := 0) (t := 9) (off := 4) (by decide +kernel) rfl,
    trivial⟩⟩⟩⟩⟩⟩⟩⟩
  | 8 => ⟨_, so_iconst (n := (0)) (by decide +kernel) ⟨by decide, by decide⟩,
    ⟨_, so_fall (pc' := 0) (t := 9) rfl,
    trivial⟩⟩
  | 9 => ⟨_, so_iret (pc' := 0) rfl (by decide +kernel),
    trivial⟩
  | 10 => ⟨_, so_iconst (n := (-1)) (by decide +kernel) ⟨by decide, by decide⟩,
    ⟨_, so_iret (pc' := 0) rfl (by decide +kernel),
    trivial⟩⟩
  | _ + 11 => trivial
def c_Su_at : List (List Op) := [
  [op_iload 1, op_look [(0, 1), (1, 2)] 3],
  [op_aload 0, op_getr SC 11 2, op_getr SC 1 0, op_geti SC 7 0, op_iret],
  [op_aload 0, op_getr SC 11 2, op_getr SC 1 0, op_geti SC 7 1, op_iret],
  [op_ci (-1), op_iret]]
def t_Su_at : Nat → Nat := fun t => [0, 28, 39, 50].getD t 0
set_option maxRecDepth 100000 in
theorem ok_Su_at : MOK SC m_Su_at c_Su_at t_Su_at := fun t => match t with
  | 0 => ⟨_, so_iload_n (i := 1) (k := 1) (by decide +kernel) rfl,
    ⟨_, so_look (pc' := 0) (r := [(0, 1), (1, 2)]) (d := 3) (dflt := 49) (ps := #[(0, 27), (1, 38)]) (len := 27) (by decide +kernel) (by decide +kernel) (by intro x; simp only [Op.lookupswitch.offset, lkt]; (repeat' split) <;> first | rfl | omega),
    trivial⟩⟩
  | 1 => ⟨_, so_aload_n (i := 0) (k := 0) (by decide +kernel) rfl,
    ⟨_, so_getr (ci := 11) (k := 2) (index := 26) rfl CF_11 (by decide +kernel) (fun _ _ _ => rfl) tw_567 rfl (by decide +kernel),
    ⟨_, so_getrN (ci := 1) (k := 0) (index := 131) rfl CF_1 (by decide +kernel) (fun _ _ _ => rfl) tw_173 rfl (by decide +kernel),
    ⟨_, so_getiN (ci := 7) (k := 0) (index := 147) rfl CF_7 (by decide +kernel) (fun _ _ _ => rfl) tw_130 rfl (by decide +kernel),
    ⟨_, so_iret (pc' := 0) rfl (by decide +kernel),
    trivial⟩⟩⟩⟩⟩
  | 2 => ⟨_, so_aload_n (i := 0) (k := 0) (by decide +kernel) rfl,
    ⟨_, so_getr (ci := 11) (k := 2) (index := 26) rfl CF_11 (by decide +kernel) (fun _ _ _ => rfl) tw_567 rfl (by decide +kernel),
    ⟨_, so_getrN (ci := 1) (k := 0) (index := 131) rfl CF_1 (by decide +kernel) (fun _ _ _ => rfl) tw_173 rfl (by decide +kernel),
    ⟨_, so_getiN (ci := 7) (k := 1) (index := 151) rfl CF_7 (by decide +kernel) (fun _ _ _ => rfl) tw_136 rfl (by decide +kernel),
    ⟨_, so_iret (pc' := 0) rfl (by decide +kernel),
    trivial⟩⟩⟩⟩⟩
  | 3 => ⟨_, so_iconst (n := (-1)) (by decide +kernel) ⟨by decide, by decide⟩,
    ⟨_, so_iret (pc' := 0) rfl (by decide +kernel),
    trivial⟩⟩
  | _ + 4 => trivial
def c_Su_cross : List (List Op) := [
  [op_aload 0, op_getr SC 11 2, op_iload 1, op_invV SC m_Co_hasRoad 1 1, op_ifne 1, op_ci (-1), op_iret],
  [op_aload 0, op_getr SC 11 5, op_invV SC m_Wa_startNow 9 0, op_aload 0, op_getr SC 11 5, op_iload 1, op_invV SC m_Wa_goBy 9 1, op_ifne 2, op_ci (-2), op_iret],
  [op_aload 0, op_getr SC 11 3, op_aload 0, op_getr SC 11 2, op_getr SC 1 0, op_invV SC m_Pi_push 4 1, op_aload 0, op_getr SC 11 2, op_getr SC 1 0, op_aload 0, op_getr SC 11 5, op_geti SC 9 1, op_puti SC 7 0, op_aload 0, op_getr SC 11 2, op_getr SC 1 0, op_aload 0, op_getr SC 11 5, op_geti SC 9 2, op_puti SC 7 1, op_aload 0, op_getr SC 11 2, op_getr SC 1 0, op_dup, op_geti SC 7 2, op_ci (1), op_iadd, op_puti SC 7 2, op_aload 0, op_getr SC 11 2, op_getr SC 1 0, op_geti SC 7 1, op_iret]]
def t_Su_cross : Nat → Nat := fun t => [0, 13, 34].getD t 0
set_option maxRecDepth 100000 in
theorem ok_Su_cross : MOK SC m_Su_cross c_Su_cross t_Su_cross := fun t => match t with
  | 0 => ⟨_, so_aload_n (i := 0) (k := 0) (by decide +kernel) rfl,
    ⟨_, so_getr (ci := 11) (k := 2) (index := 26) rfl CF_11 (by decide +kernel) (fun _ _ _ => rfl) tw_567 rfl (by decide +kernel),
    ⟨_, so_iload_n (i := 1) (k := 1) (by decide +kernel) rfl,
    ⟨_, so_invV (mi' := m_Co_hasRoad) (ci := 1) (n := 1) (index := 117) rfl rfl tw_538 tw_539 ⟨tw_540, tw_67, ⟨by decide +kernel, by decide +kernel, by decide +kernel⟩, by decide +kernel⟩ tw_624 (by decide +kernel),
    ⟨_, so_ifne (t := 1) (off := 5) (by decide +kernel) rfl,
    ⟨_, so_iconst (n := (-1)) (by decide +kernel) ⟨by decide, by decide⟩,
    ⟨_, so_iret (pc' := 0) rfl (by decide +kernel),
    trivial⟩⟩⟩⟩⟩⟩⟩
  | 1 => ⟨_, so_aload_n (i := 0) (k := 0) (by decide +kernel) rfl,
    ⟨_, so_getr (ci := 11) (k := 5) (index := 47) rfl CF_11 (by decide +kernel) (fun _ _ _ => rfl) tw_570 rfl (by decide +kernel),
    ⟨_, so_invV (mi' := m_Wa_startNow) (ci := 9) (n := 0) (index := 154) rfl rfl tw_650 tw_651 ⟨tw_652, tw_70, ⟨by decide +kernel, by decide +kernel, by decide +kernel⟩, by decide +kernel⟩ tw_649 (by decide +kernel),
    ⟨_, so_aload_n (i := 0) (k := 0) (by decide +kernel) rfl,
    ⟨_, so_getr (ci := 11) (k := 5) (index := 47) rfl CF_11 (by decide +kernel) (fun _ _ _ => rfl) tw_570 rfl (by decide +kernel),
    ⟨_, so_iload_n (i := 1) (k := 1) (by decide +kernel) rfl,
    ⟨_, so_invV (mi' := m_Wa_goBy) (ci := 9) (n := 1) (index := 157) rfl rfl tw_654 tw_655 ⟨tw_656, tw_70, ⟨by decide +kernel, by decide +kernel, by decide +kernel⟩, by decide +kernel⟩ tw_653 (by decide +kernel),
    ⟨_, so_ifne (t := 2) (off := 6) (by decide +kernel) rfl,
    ⟨_, so_bipush (n := (-2)) (by decide +kernel) (by decide +kernel) ⟨by decide, by decide⟩,
    ⟨_, so_iret (pc' := 0) rfl (by decide +kernel),
    trivial⟩⟩⟩⟩⟩⟩⟩⟩⟩⟩
  | 2 => ⟨_, so_aload_n (i := 0) (k := 0) (by decide +kernel) rfl,
    ⟨_, so_getr (ci := 11) (k := 3) (index := 35) rfl CF_11 (by decide +kernel) (fun _ _ _ => rfl) tw_568 rfl (by decide +kernel),
    ⟨_, so_aload_n (i := 0) (k := 0) (by decide +kernel) rfl,
    ⟨_, so_getr (ci := 11) (k := 2) (index := 26) rfl CF_11 (by decide +kernel) (fun _ _ _ => rfl) tw_567 rfl (by decide +kernel),
    ⟨_, so_getrN (ci := 1) (k := 0) (index := 131) rfl CF_1 (by decide +kernel) (fun _ _ _ => rfl) tw_173 rfl (by decide +kernel),
    ⟨_, so_invV (mi' := m_Pi_push) (ci := 4) (n := 1) (index := 160) rfl rfl tw_687 tw_688 ⟨tw_689, tw_69, ⟨by decide +kernel, by decide +kernel, by decide +kernel⟩, by decide +kernel⟩ tw_686 (by decide +kernel),
    ⟨_, so_aload_n (i := 0) (k := 0) (by decide +kernel) rfl,
    ⟨_, so_getr (ci := 11) (k := 2) (index := 26) rfl CF_11 (by decide +kernel) (fun _ _ _ => rfl) tw_567 rfl (by decide +kernel),
    ⟨_, so_getrN (ci := 1) (k := 0) (index := 131) rfl CF_1 (by decide +kernel) (fun _ _ _ => rfl) tw_173 rfl (by decide +kernel),
    ⟨_, so_aload_n (i := 0) (k := 0) (by decide +kernel) rfl,
    ⟨_, so_getr (ci := 11) (k := 5) (index := 47) rfl CF_11 (by decide +kernel) (fun _ _ _ => rfl) tw_570 rfl (by decide +kernel),
    ⟨_, so_getiN (ci := 9) (k := 1) (index := 164) rfl CF_9 (by decide +kernel) (fun _ _ _ => rfl) tw_239 rfl (by decide +kernel),
    ⟨_, so_putiN (ci := 7) (k := 0) (index := 147) rfl CF_7 (by decide +kernel) rfl tw_130 rfl rfl (by decide +kernel),
    ⟨_, so_aload_n (i := 0) (k := 0) (by decide +kernel) rfl,
    ⟨_, so_getr (ci := 11) (k := 2) (index := 26) rfl CF_11 (by decide +kernel) (fun _ _ _ => rfl) tw_567 rfl (by decide +kernel),
    ⟨_, so_getrN (ci := 1) (k := 0) (index := 131) rfl CF_1 (by decide +kernel) (fun _ _ _ => rfl) tw_173 rfl (by decide +kernel),
    ⟨_, so_aload_n (i := 0) (k := 0) (by decide +kernel) rfl,
    ⟨_, so_getr (ci := 11) (k := 5) (index := 47) rfl CF_11 (by decide +kernel) (fun _ _ _ => rfl) tw_570 rfl (by decide +kernel),
    ⟨_, so_getiN (ci := 9) (k := 2) (index := 165) rfl CF_9 (by decide +kernel) (fun _ _ _ => rfl) tw_241 rfl (by decide +kernel),
    ⟨_, so_putiN (ci := 7) (k := 1) (index := 151) rfl CF_7 (by decide +kernel) rfl tw_136 rfl rfl (by decide +kernel),
    ⟨_, so_aload_n (i := 0) (k := 0) (by decide +kernel) rfl,
    ⟨_, so_getr (ci := 11) (k := 2) (index := 26) rfl CF_11 (by decide +kernel) (fun _ _ _ => rfl) tw_567 rfl (by decide +kernel),
    ⟨_, so_getrN (ci := 1) (k := 0) (index := 131) rfl CF_1 (by decide +kernel) (fun _ _ _ => rfl) tw_173 rfl (by decide +kernel),
    ⟨_, so_dup (by decide +kernel),
    ⟨_, so_getiN (ci := 7) (k := 2) (index := 166) rfl CF_7 (by decide +kernel) (fun _ _ _ => rfl) tw_141 rfl (by decide +kernel),
    ⟨_, so_iconst (n := (1)) (by decide +kernel) ⟨by decide, by decide⟩,
    ⟨_, so_iadd (by decide +kernel),
    ⟨_, so_putiN (ci := 7) (k := 2) (index := 166) rfl CF_7 (by decide +kernel) rfl tw_141 rfl rfl (by decide +kernel),
    ⟨_, so_aload_n (i := 0) (k := 0) (by decide +kernel) rfl,
    ⟨_, so_getr (ci := 11) (k := 2) (index := 26) rfl CF_11 (by decide +kernel) (fun _ _ _ => rfl) tw_567 rfl (by decide +kernel),
    ⟨_, so_getrN (ci := 1) (k := 0) (index := 131) rfl CF_1 (by decide +kernel) (fun _ _ _ => rfl) tw_173 rfl (by decide +kernel),
    ⟨_, so_getiN (ci := 7) (k := 1) (index := 151) rfl CF_7 (by decide +kernel) (fun _ _ _ => rfl) tw_136 rfl (by decide +kernel),
    ⟨_, so_iret (pc' := 0) rfl (by decide +kernel),
    trivial⟩⟩⟩⟩⟩⟩⟩⟩⟩⟩⟩⟩⟩⟩⟩⟩⟩⟩⟩⟩⟩⟩⟩⟩⟩⟩⟩⟩⟩⟩⟩⟩⟩
  | _ + 3 => trivial
def c_Su_mend : List (List Op) := [
  [op_aload 0, op_getr SC 11 2, op_iload 1, op_invV SC m_Co_hasRoad 1 1, op_ifeq 1, op_iload 2, op_invS SC m_Su_isFigure 1, op_ifeq 1, op_iload 3, op_invS SC m_Su_isFigure 1, op_ifne 2, op_goto 1],
  [op_ci (-1), op_iret],
  [op_aload 0, op_getr SC 11 3, op_aload 0, op_getr SC 11 2, op_getr SC 1 0, op_invV SC m_Pi_push 4 1, op_aload 0, op_getr SC 11 2, op_getr SC 1 0, op_getr SC 7 4, op_iload 1, op_iald SC, op_istore 4, op_aload 0, op_getr SC 11 2, op_getr SC 1 0, op_getr SC 7 4, op_iload 1, op_iload 2, op_iast SC, op_aload 0, op_getr SC 11 2, op_getr SC 1 0, op_getr SC 7 5, op_iload 1, op_iload 3, op_iast SC, op_iload 4, op_iret]]
def t_Su_mend : Nat → Nat := fun t => [0, 25, 27].getD t 0
set_option maxRecDepth 100000 in
theorem ok_Su_mend : MOK SC m_Su_mend c_Su_mend t_Su_mend := fun t => match t with
  | 0 => ⟨_, so_aload_n (i := 0) (k := 0) (by decide +kernel) rfl,
    ⟨_, so_getr (ci := 11) (k := 2) (index := 26) rfl CF_11 (by decide +kernel) (fun _ _ _ => rfl) tw_567 rfl (by decide +kernel),
    ⟨_, so_iload_n (i := 1) (k := 1) (by decide +kernel) rfl,
    ⟨_, so_invV (mi' := m_Co_hasRoad) (ci := 1) (n := 1) (index := 117) rfl rfl tw_538 tw_539 ⟨tw_540, tw_67, ⟨by decide +kernel, by decide +kernel, by decide +kernel⟩, by decide +kernel⟩ tw_624 (by decide +kernel),
    ⟨_, so_ifeq (t := 1) (off := 17) (by decide +kernel) rfl,
    ⟨_, so_iload_n (i := 2) (k := 2) (by decide +kernel) rfl,
    ⟨_, so_invS (mi' := m_Su_isFigure) (n := 1) (index := 169) tw_704 ⟨tw_705, tw_64, ⟨by decide +kernel, by decide +kernel, by decide +kernel⟩, by decide +kernel⟩ tw_703 (by decide +kernel),
    ⟨_, so_ifeq (t := 1) (off := 10) (by decide +kernel) rfl,
    ⟨_, so_iload_n (i := 3) (k := 3) (by decide +kernel) rfl,
    ⟨_, so_invS (mi' := m_Su_isFigure) (n := 1) (index := 169) tw_704 ⟨tw_705, tw_64, ⟨by decide +kernel, by decide +kernel, by decide +kernel⟩, by decide +kernel⟩ tw_703 (by decide +kernel),
    ⟨_, so_ifne (t := 2) (off := 5) (by decide +kernel) rfl,
    ⟨_, so_fall (pc' := 0) (t := 1) rfl,
    trivial⟩⟩⟩⟩⟩⟩⟩⟩⟩⟩⟩⟩
  | 1 => ⟨_, so_iconst (n := (-1)) (by decide +kernel) ⟨by decide, by decide⟩,
    ⟨_, so_iret (pc' := 0) rfl (by decide +kernel),
    trivial⟩⟩
  | 2 => ⟨_, so_aload_n (i := 0) (k := 0) (by decide +kernel) rfl,
    ⟨_, so_getr (ci := 11) (k := 3) (index := 35) rfl CF_11 (by decide +kernel) (fun _ _ _ => rfl) tw_568 rfl (by decide +kernel),
    ⟨_, so_aload_n (i := 0) (k := 0) (by decide +kernel) rfl,
    ⟨_, so_getr (ci := 11) (k := 2) (index := 26) rfl CF_11 (by decide +kernel) (fun _ _ _ => rfl) tw_567 rfl (by decide +kernel),
    ⟨_, so_getrN (ci := 1) (k := 0) (index := 131) rfl CF_1 (by decide +kernel) (fun _ _ _ => rfl) tw_173 rfl (by decide +kernel),
    ⟨_, so_invV (mi' := m_Pi_push) (ci := 4) (n := 1) (index := 160) rfl rfl tw_687 tw_688 ⟨tw_689, tw_69, ⟨by decide +kernel, by decide +kernel, by decide +kernel⟩, by decide +kernel⟩ tw_686 (by decide +kernel),
    ⟨_, so_aload_n (i := 0) (k := 0) (by decide +kernel) rfl,
    ⟨_, so_getr (ci := 11) (k := 2) (index := 26) rfl CF_11 (by decide +kernel) (fun _ _ _ => rfl) tw_567 rfl (by decide +kernel),
    ⟨_, so_getrN (ci := 1) (k := 0) (index := 131) rfl CF_1 (by decide +kernel) (fun _ _ _ => rfl) tw_173 rfl (by decide +kernel),
    ⟨_, so_getrN (ci := 7) (k := 4) (index := 135) rfl CF_7 (by decide +kernel) (fun _ _ _ => rfl) tw_148 rfl (by decide +kernel),
    ⟨_, so_iload_n (i := 1) (k := 1) (by decide +kernel) rfl,
    ⟨_, so_iald rfl (by decide +kernel),
    ⟨_, so_istore (i := 4) (by decide +kernel) (by decide +kernel),
    ⟨_, so_aload_n (i := 0) (k := 0) (by decide +kernel) rfl,
    ⟨_, so_getr (ci := 11) (k := 2) (index := 26) rfl CF_11 (by decide +kernel) (fun _ _ _ => rfl) tw_567 rfl (by decide +kernel),
    ⟨_, so_getrN (ci := 1) (k := 0) (index := 131) rfl CF_1 (by decide +kernel) (fun _ _ _ => rfl) tw_173 rfl (by decide +kernel),
    ⟨_, so_getrN (ci := 7) (k := 4) (index := 135) rfl CF_7 (by decide +kernel) (fun _ _ _ => rfl) tw_148 rfl (by decide +kernel),
    ⟨_, so_iload_n (i := 1) (k := 1) (by decide +kernel) rfl,
    ⟨_, so_iload_n (i := 2) (k := 2) (by decide +kernel) rfl,
    ⟨_, so_iast rfl (by decide +kernel),
    ⟨_, so_aload_n (i := 0) (k := 0) (by decide +kernel) rfl,
    ⟨_, so_getr (ci := 11) (k := 2) (index := 26) rfl CF_11 (by decide +kernel) (fun _ _ _ => rfl) tw_567 rfl (by decide +kernel),
    ⟨_, so_getrN (ci := 1) (k := 0) (index := 131) rfl CF_1 (by decide +kernel) (fun _ _ _ => rfl) tw_173 rfl (by decide +kernel),
    ⟨_, so_getrN (ci := 7) (k := 5) (index := 141) rfl CF_7 (by decide +kernel) (fun _ _ _ => rfl) tw_152 rfl (by decide +kernel),
    ⟨_, so_iload_n (i := 1) (k := 1) (by decide +kernel) rfl,
    ⟨_, so_iload_n (i := 3) (k := 3) (by decide +kernel) rfl,
    ⟨_, so_iast rfl (by decide +kernel),
    ⟨_, so_iload (i := 4) (by decide +kernel),
    ⟨_, so_iret (pc' := 0) rfl (by decide +kernel),
    trivial⟩⟩⟩⟩⟩⟩⟩⟩⟩⟩⟩⟩⟩⟩⟩⟩⟩⟩⟩⟩⟩⟩⟩⟩⟩⟩⟩⟩⟩
  | _ + 3 => trivial
def c_Su_shut : List (List Op) := [
  [op_aload 0, op_getr SC 11 2, op_iload 1, op_invV SC m_Co_hasRoad 1 1, op_ifne 1, op_ci (-1), op_iret],
  [op_aload 0, op_getr SC 11 2, op_getr SC 1 0, op_iload 1, op_invV SC m_St_isShut 7 1, op_iload 2, op_icne 2, op_ci (-2), op_iret],
  [op_aload 0, op_getr SC 11 3, op_aload 0, op_getr SC 11 2, op_getr SC 1 0, op_invV SC m_Pi_push 4 1, op_aload 0, op_getr SC 11 2, op_getr SC 1 0, op_iload 1, op_invV SC m_St_turn 7 1, op_aload 0, op_getr SC 11 2, op_getr SC 1 0, op_geti SC 7 3, op_invS SC m_Jd_bitCount 1, op_iret]]
def t_Su_shut : Nat → Nat := fun t => [0, 13, 31].getD t 0
set_option maxRecDepth 100000 in
theorem ok_Su_shut : MOK SC m_Su_shut c_Su_shut t_Su_shut := fun t => match t with
  | 0 => ⟨_, so_aload_n (i := 0) (k := 0) (by decide +kernel) rfl,
    ⟨_, so_getr (ci := 11) (k := 2) (index := 26) rfl CF_11 (by decide +kernel) (fun _ _ _ => rfl) tw_567 rfl (by decide +kernel),
    ⟨_, so_iload_n (i := 1) (k := 1) (by decide +kernel) rfl,
    ⟨_, so_invV (mi' := m_Co_hasRoad) (ci := 1) (n := 1) (index := 117) rfl rfl tw_538 tw_539 ⟨tw_540, tw_67, ⟨by decide +kernel, by decide +kernel, by decide +kernel⟩, by decide +kernel⟩ tw_624 (by decide +kernel),
    ⟨_, so_ifne (t := 1) (off := 5) (by decide +kernel) rfl,
    ⟨_, so_iconst (n := (-1)) (by decide +kernel) ⟨by decide, by decide⟩,
    ⟨_, so_iret (pc' := 0) rfl (by decide +kernel),
    trivial⟩⟩⟩⟩⟩⟩⟩
  | 1 => ⟨_, so_aload_n (i := 0) (k := 0) (by decide +kernel) rfl,
    ⟨_, so_getr (ci := 11) (k := 2) (index := 26) rfl CF_11 (by decide +kernel) (fun _ _ _ => rfl) tw_567 rfl (by decide +kernel),
    ⟨_, so_getrN (ci := 1) (k := 0) (index := 131) rfl CF_1 (by decide +kernel) (fun _ _ _ => rfl) tw_173 rfl (by decide +kernel),
    ⟨_, so_iload_n (i := 1) (k := 1) (by decide +kernel) rfl,
    ⟨_, so_invV (mi' := m_St_isShut) (ci := 7) (n := 1) (index := 144) rfl rfl tw_638 tw_639 ⟨tw_640, tw_68, ⟨by decide +kernel, by decide +kernel, by decide +kernel⟩, by decide +kernel⟩ tw_637 (by decide +kernel),
    ⟨_, so_iload_n (i := 2) (k := 2) (by decide +kernel) rfl,
    ⟨_, so_icne (t := 2) (off := 6) (by decide +kernel) rfl,
    ⟨_, so_bipush (n := (-2)) (by decide +kernel) (by decide +kernel) ⟨by decide, by decide⟩,
    ⟨_, so_iret (pc' := 0) rfl (by decide +kernel),
    trivial⟩⟩⟩⟩⟩⟩⟩⟩⟩
  | 2 => ⟨_, so_aload_n (i := 0) (k := 0) (by decide +kernel) rfl,
    ⟨_, so_getr (ci := 11) (k := 3) (index := 35) rfl CF_11 (by decide +kernel) (fun _ _ _ => rfl) tw_568 rfl (by decide +kernel),
    ⟨_, so_aload_n (i := 0) (k := 0) (by decide +kernel) rfl,
    ⟨_, so_getr (ci := 11) (k := 2) (index := 26) rfl CF_11 (by decide +kernel) (fun _ _ _ => rfl) tw_567 rfl (by decide +kernel),
    ⟨_, so_getrN (ci := 1) (k := 0) (index := 131) rfl CF_1 (by decide +kernel) (fun _ _ _ => rfl) tw_173 rfl (by decide +kernel),
    ⟨_, so_invV (mi' := m_Pi_push) (ci := 4) (n := 1) (index := 160) rfl rfl tw_687 tw_688 ⟨tw_689, tw_69, ⟨by decide +kernel, by decide +kernel, by decide +kernel⟩, by decide +kernel⟩ tw_686 (by decide +kernel),
    ⟨_, so_aload_n (i := 0) (k := 0) (by decide +kernel) rfl,
    ⟨_, so_getr (ci := 11) (k := 2) (index := 26) rfl CF_11 (by decide +kernel) (fun _ _ _ => rfl) tw_567 rfl (by decide +kernel),
    ⟨_, so_getrN (ci := 1) (k := 0) (index := 131) rfl CF_1 (by decide +kernel) (fun _ _ _ => rfl) tw_173 rfl (by decide +kernel),
    ⟨_, so_iload_n (i := 1) (k := 1) (by decide +kernel) rfl,
    ⟨_, so_invV (mi' := m_St_turn) (ci := 7) (n := 1) (index := 172) rfl rfl tw_711 tw_712 ⟨tw_713, tw_68, ⟨by decide +kernel, by decide +kernel, by decide +kernel⟩, by decide +kernel⟩ tw_710 (by decide +kernel),
    ⟨_, so_aload_n (i := 0) (k := 0) (by decide +kernel) rfl,
    ⟨_, so_getr (ci := 11) (k := 2) (index := 26) rfl CF_11 (by decide +kernel) (fun _ _ _ => rfl) tw_567 rfl (by decide +kernel),
    ⟨_, so_getrN (ci := 1) (k := 0) (index := 131) rfl CF_1 (by decide +kernel) (fun _ _ _ => rfl) tw_173 rfl (by decide +kernel),
    ⟨_, so_getiN (ci := 7) (k := 3) (index := 175) rfl CF_7 (by decide +kernel) (fun _ _ _ => rfl) tw_144 rfl (by decide +kernel),
    ⟨_, so_invS (mi' := m_Jd_bitCount) (n := 1) (index := 178) tw_715 ⟨tw_716, tw_82, ⟨by decide +kernel, by decide +kernel, by decide +kernel⟩, by decide +kernel⟩ tw_714 (by decide +kernel),
    ⟨_, so_iret (pc' := 0) rfl (by decide +kernel),
    trivial⟩⟩⟩⟩⟩⟩⟩⟩⟩⟩⟩⟩⟩⟩⟩⟩⟩
  | _ + 3 => trivial
def c_Su_undo : List (List Op) := [
  [op_aload 0, op_getr SC 11 3, op_aload 0, op_getr SC 11 2, op_getr SC 1 0, op_invV SC m_Pi_popInto 4 1, op_ifeq 1, op_aload 0, op_getr SC 11 3, op_invV SC m_Pi_size 4 0, op_goto 2],
  [op_ci (-2), op_goto 2],
  [op_iret]]
def t_Su_undo : Nat → Nat := fun t => [0, 27, 29].getD t 0
set_option maxRecDepth 100000 in
theorem ok_Su_undo : MOK SC m_Su_undo c_Su_undo t_Su_undo := fun t => match t with
  | 0 => ⟨_, so_aload_n (i := 0) (k := 0) (by decide +kernel) rfl,
    ⟨_, so_getr (ci := 11) (k := 3) (index := 35) rfl CF_11 (by decide +kernel) (fun _ _ _ => rfl) tw_568 rfl (by decide +kernel),
    ⟨_, so_aload_n (i := 0) (k := 0) (by decide +kernel) rfl,
    ⟨_, so_getr (ci := 11) (k := 2) (index := 26) rfl CF_11 (by decide +kernel) (fun _ _ _ => rfl) tw_567 rfl (by decide +kernel),
    ⟨_, so_getrN (ci := 1) (k := 0) (index := 131) rfl CF_1 (by decide +kernel) (fun _ _ _ => rfl) tw_173 rfl (by decide +kernel),
    ⟨_, so_invV (mi' := m_Pi_popInto) (ci := 4) (n := 1) (index := 183) rfl rfl tw_725 tw_726 ⟨tw_727, tw_69, ⟨by decide +kernel, by decide +kernel, by decide +kernel⟩, by decide +kernel⟩ tw_724 (by decide +kernel),
    ⟨_, so_ifeq (t := 1) (off := 13) (by decide +kernel) rfl,
    ⟨_, so_aload_n (i := 0) (k := 0) (by decide +kernel) rfl,
    ⟨_, so_getr (ci := 11) (k := 3) (index := 35) rfl CF_11 (by decide +kernel) (fun _ _ _ => rfl) tw_568 rfl (by decide +kernel),
    ⟨_, so_invV (mi' := m_Pi_size) (ci := 4) (n := 0) (index := 187) rfl rfl tw_729 tw_730 ⟨tw_731, tw_69, ⟨by decide +kernel, by decide +kernel, by decide +kernel⟩, by decide +kernel⟩ tw_728 (by decide +kernel),
    ⟨_, so_goto (pc' := 0) (t := 2) (off := 5) (by decide +kernel) rfl,
    trivial⟩⟩⟩⟩⟩⟩⟩⟩⟩⟩⟩
  | 1 => ⟨_, so_bipush (n := (-2)) (by decide +kernel) (by decide +kernel) ⟨by decide, by decide⟩,
    ⟨_, so_fall (pc' := 0) (t := 2) rfl,
    trivial⟩⟩
  | 2 => ⟨_, so_iret (pc' := 0) rfl (by decide +kernel),
    trivial⟩
  | _ + 3 => trivial
def c_Su_journey : List (List Op) := [
  [op_iload 1, op_iflt 1, op_iload 1, op_aload 0, op_getr SC 11 2, op_invV SC m_Co_steps 1 0, op_icgt 1, op_iload 2, op_invS SC m_Su_isEither 1, op_ifne 2, op_goto 1],
  [op_ci (-1), op_iret],
  [op_aload 0, op_getr SC 11 5, op_iload 1, op_invV SC m_Wa_followPlan 9 1, op_ifne 3, op_ci (-4), op_iret],
  [op_iload 2, op_ifne 4, op_aload 0, op_getr SC 11 5, op_geti SC 9 1, op_goto 5],
  [op_aload 0, op_getr SC 11 5, op_geti SC 9 2, op_goto 5],
  [op_iret]]
def t_Su_journey : Nat → Nat := fun t => [0, 22, 24, 38, 52, 59].getD t 0
set_option maxRecDepth 100000 in
theorem ok_Su_journey : MOK SC m_Su_journey c_Su_journey t_Su_journey := fun t => match t with
  | 0 => ⟨_, so_iload_n (i := 1) (k := 1) (by decide +kernel) rfl,
    ⟨_, so_iflt (t := 1) (off := 21) (by decide +kernel) rfl,
    ⟨_, so_iload_n (i := 1) (k := 1) (by decide +kernel) rfl,
    ⟨_, so_aload_n (i := 0) (k := 0) (by decide +kernel) rfl,
    ⟨_, so_getr (ci := 11) (k := 2) (index := 26) rfl CF_11 (by decide +kernel) (fun _ _ _ => rfl) tw_567 rfl (by decide +kernel),
    ⟨_, so_invV (mi' := m_Co_steps) (ci := 1) (n := 0) (index := 190) rfl rfl tw_737 tw_738 ⟨tw_739, tw_67, ⟨by decide +kernel, by decide +kernel, by decide +kernel⟩, by decide +kernel⟩ tw_736 (by decide +kernel),
    ⟨_, so_icgt (t := 1) (off := 10) (by decide +kernel) rfl,
    ⟨_, so_iload_n (i := 2) (k := 2) (by decide +kernel) rfl,
    ⟨_, so_invS (mi' := m_Su_isEither) (n := 1) (index := 193) tw_741 ⟨tw_742, tw_64, ⟨by decide +kernel, by decide +kernel, by decide +kernel⟩, by decide +kernel⟩ tw_740 (by decide +kernel),
    ⟨_, so_ifne (t := 2) (off := 5) (by decide +kernel) rfl,
    ⟨_, so_fall (pc' := 0) (t := 1) rfl,
    trivial⟩⟩⟩⟩⟩⟩⟩⟩⟩⟩⟩
  | 1 => ⟨_, so_iconst (n := (-1)) (by decide +kernel) ⟨by decide, by decide⟩,
    ⟨_, so_iret (pc' := 0) rfl (by decide +kernel),
    trivial⟩⟩
  | 2 => ⟨_, so_aload_n (i := 0) (k := 0) (by decide +kernel) rfl,
    ⟨_, so_getr (ci := 11) (k := 5) (index := 47) rfl CF_11 (by decide +kernel) (fun _ _ _ => rfl) tw_570 rfl (by decide +kernel),
    ⟨_, so_iload_n (i := 1) (k := 1) (by decide +kernel) rfl,
    ⟨_, so_invV (mi' := m_Wa_followPlan) (ci := 9) (n := 1) (index := 196) rfl rfl tw_744 tw_745 ⟨tw_746, tw_70, ⟨by decide +kernel, by decide +kernel, by decide +kernel⟩, by decide +kernel⟩ tw_743 (by decide +kernel),
    ⟨_, so_ifne (t := 3) (off := 6) (by decide +kernel) rfl,
    ⟨_, so_bipush (n := (-4)) (by decide +kernel) (by decide +kernel) ⟨by decide, by decide⟩,
    ⟨_, so_iret (pc' := 0) rfl (by decide +kernel),
    trivial⟩⟩⟩⟩⟩⟩⟩
  | 3 => ⟨_, so_iload_n (i := 2) (k := 2) (by decide +kernel) rfl,
    ⟨_, so_ifne (t := 4) (off := 13) (by decide +kernel) rfl,
    ⟨_, so_aload_n (i := 0) (k := 0) (by decide +kernel) rfl,
    ⟨_, so_getr (ci := 11) (k := 5) (index := 47) rfl CF_11 (by decide +kernel) (fun _ _ _ => rfl) tw_570 rfl (by decide +kernel),
    ⟨_, so_getiN (ci := 9) (k := 1) (index := 164) rfl CF_9 (by decide +kernel) (fun _ _ _ => rfl) tw_239 rfl (by decide +kernel),
    ⟨_, so_goto (pc' := 0) (t := 5) (off := 10) (by decide +kernel) rfl,
    trivial⟩⟩⟩⟩⟩⟩
  | 4 => ⟨_, so_aload_n (i := 0) (k := 0) (by decide +kernel) rfl,
    ⟨_, so_getr (ci := 11) (k := 5) (index := 47) rfl CF_11 (by decide +kernel) (fun _ _ _ => rfl) tw_570 rfl (by decide +kernel),
    ⟨_, so_getiN (ci := 9) (k := 2) (index := 165) rfl CF_9 (by decide +kernel) (fun _ _ _ => rfl) tw_241 rfl (by decide +kernel),
    ⟨_, so_fall (pc' := 0) (t := 5) rfl,
    trivial⟩⟩⟩⟩
  | 5 => ⟨_, so_iret (pc' := 0) rfl (by decide +kernel),
    trivial⟩
  | _ + 6 => trivial
def c_Su_most : List (List Op) := [
  [op_iload 1, op_iflt 1, op_iload 1, op_ci (5), op_icgt 1, op_iload 2, op_invS SC m_Su_isEither 1, op_ifne 2, op_goto 1],
  [op_ci (-1), op_iret],
  [op_aload 0, op_getr SC 11 6, op_iload 1, op_invV SC m_Cl_findMost 0 1, op_iload 2, op_ifne 3, op_aload 0, op_getr SC 11 6, op_geti SC 0 4, op_goto 4],
  [op_aload 0, op_getr SC 11 6, op_geti SC 0 5, op_goto 4],
  [op_iret]]
def t_Su_most : Nat → Nat := fun t => [0, 16, 18, 40, 47].getD t 0
set_option maxRecDepth 100000 in
theorem ok_Su_most : MOK SC m_Su_most c_Su_most t_Su_most := fun t => match t with
  | 0 => ⟨_, so_iload_n (i := 1) (k := 1) (by decide +kernel) rfl,
    ⟨_, so_iflt (t := 1) (off := 15) (by decide +kernel) rfl,
    ⟨_, so_iload_n (i := 1) (k := 1) (by decide +kernel) rfl,
    ⟨_, so_iconst (n := (5)) (by decide +kernel) ⟨by decide, by decide⟩,
    ⟨_, so_icgt (t := 1) (off := 10) (by decide +kernel) rfl,
    ⟨_, so_iload_n (i := 2) (k := 2) (by decide +kernel) rfl,
    ⟨_, so_invS (mi' := m_Su_isEither) (n := 1) (index := 193) tw_741 ⟨tw_742, tw_64, ⟨by decide +kernel, by decide +kernel, by decide +kernel⟩, by decide +kernel⟩ tw_740 (by decide +kernel),
    ⟨_, so_ifne (t := 2) (off := 5) (by decide +kernel) rfl,
    ⟨_, so_fall (pc' := 0) (t := 1) rfl,
    trivial⟩⟩⟩⟩⟩⟩⟩⟩⟩
  | 1 => ⟨_, so_iconst (n := (-1)) (by decide +kernel) ⟨by decide, by decide⟩,
    ⟨_, so_iret (pc' := 0) rfl (by decide +kernel),
    trivial⟩⟩
  | 2 => ⟨_, so_aload_n (i := 0) (k := 0) (by decide +kernel) rfl,
    ⟨_, so_getr (ci := 11) (k := 6) (index := 54) rfl CF_11 (by decide +kernel) (fun _ _ _ => rfl) tw_571 rfl (by decide +kernel),
    ⟨_, so_iload_n (i := 1) (k := 1) (by decide +kernel) rfl,
    ⟨_, so_invV (mi' := m_Cl_findMost) (ci := 0) (n := 1) (index := 199) rfl rfl tw_759 tw_760 ⟨tw_761, tw_71, ⟨by decide +kernel, by decide +kernel, by decide +kernel⟩, by decide +kernel⟩ tw_758 (by decide +kernel),
    ⟨_, so_iload_n (i := 2) (k := 2) (by decide +kernel) rfl,
    ⟨_, so_ifne (t := 3) (off := 13) (by decide +kernel) rfl,
    ⟨_, so_aload_n (i := 0) (k := 0) (by decide +kernel) rfl,
    ⟨_, so_getr (ci := 11) (k := 6) (index := 54) rfl CF_11 (by decide +kernel) (fun _ _ _ => rfl) tw_571 rfl (by decide +kernel),
    ⟨_, so_getiN (ci := 0) (k := 4) (index := 202) rfl CF_0 (by decide +kernel) (fun _ _ _ => rfl) tw_269 rfl (by decide +kernel),
    ⟨_, so_goto (pc' := 0) (t := 4) (off := 10) (by decide +kernel) rfl,
    trivial⟩⟩⟩⟩⟩⟩⟩⟩⟩⟩
  | 3 => ⟨_, so_aload_n (i := 0) (k := 0) (by decide +kernel) rfl,
    ⟨_, so_getr (ci := 11) (k := 6) (index := 54) rfl CF_11 (by decide +kernel) (fun _ _ _ => rfl) tw_571 rfl (by decide +kernel),
    ⟨_, so_getiN (ci := 0) (k := 5) (index := 205) rfl CF_0 (by decide +kernel) (fun _ _ _ => rfl) tw_271 rfl (by decide +kernel),
    ⟨_, so_fall (pc' := 0) (t := 4) rfl,
    trivial⟩⟩⟩⟩
  | 4 => ⟨_, so_iret (pc' := 0) rfl (by decide +kernel),
    trivial⟩
  | _ + 5 => trivial
def c_Su_round : List (List Op) := [
  [op_iload 1, op_iflt 1, op_iload 1, op_ci (5), op_icle 2, op_goto 1],
  [op_ci (-1), op_iret],
  [op_aload 0, op_getr SC 11 6, op_invV SC m_Cl_findRound 0 0, op_aload 0, op_getr SC 11 6, op_geti SC 0 5, op_ifeq 3, op_iload 1, op_aload 0, op_getr SC 11 6, op_geti SC 0 5, op_icle 4, op_goto 3],
  [op_ci (-4), op_iret],
  [op_iload 1, op_ifne 5, op_aload 0, op_getr SC 11 6, op_invV SC m_Cl_gain 0 0, op_iret],
  [op_aload 0, op_getr SC 11 6, op_invV SC m_Cl_fillRow 0 0, op_aload 0, op_getr SC 11 6, op_getr SC 0 1, op_iload 1, op_ci (1), op_isub, op_iald SC, op_iret]]
def t_Su_round : Nat → Nat := fun t => [0, 9, 11, 39, 42, 54].getD t 0
set_option maxRecDepth 100000 in
theorem ok_Su_round : MOK SC m_Su_round c_Su_round t_Su_round := fun t => match t with
  | 0 => ⟨_, so_iload_n (i := 1) (k := 1) (by decide +kernel) rfl,
    ⟨_, so_iflt (t := 1) (off := 8) (by decide +kernel) rfl,
    ⟨_, so_iload_n (i := 1) (k := 1) (by decide +kernel) rfl,
    ⟨_, so_iconst (n := (5)) (by decide +kernel) ⟨by decide, by decide⟩,
    ⟨_, so_icle (t := 2) (off := 5) (by decide +kernel) rfl,
    ⟨_, so_fall (pc' := 0) (t := 1) rfl,
    trivial⟩⟩⟩⟩⟩⟩
  | 1 => ⟨_, so_iconst (n := (-1)) (by decide +kernel) ⟨by decide, by decide⟩,
    ⟨_, so_iret (pc' := 0) rfl (by decide +kernel),
    trivial⟩⟩
  | 2 => ⟨_, so_aload_n (i := 0) (k := 0) (by decide +kernel) rfl,
    ⟨_, so_getr (ci := 11) (k := 6) (index := 54) rfl CF_11 (by decide +kernel) (fun _ _ _ => rfl) tw_571 rfl (by decide +kernel),
    ⟨_, so_invV (mi' := m_Cl_findRound) (ci := 0) (n := 0) (index := 206) rfl rfl tw_800 tw_801 ⟨tw_802, tw_71, ⟨by decide +kernel, by decide +kernel, by decide +kernel⟩, by decide +kernel⟩ tw_799 (by decide +kernel),
    ⟨_, so_aload_n (i := 0) (k := 0) (by decide +kernel) rfl,
    ⟨_, so_getr (ci := 11) (k := 6) (index := 54) rfl CF_11 (by decide +kernel) (fun _ _ _ => rfl) tw_571 rfl (by decide +kernel),
    ⟨_, so_getiN (ci := 0) (k := 5) (index := 205) rfl CF_0 (by decide +kernel) (fun _ _ _ => rfl) tw_271 rfl (by decide +kernel),
    ⟨_, so_ifeq (t := 3) (off := 14) (by decide +kernel) rfl,
    ⟨_, so_iload_n (i := 1) (k := 1) (by decide +kernel) rfl,
    ⟨_, so_aload_n (i := 0) (k := 0) (by decide +kernel) rfl,
    ⟨_, so_getr (ci := 11) (k := 6) (index := 54) rfl CF_11 (by decide +kernel) (fun _ _ _ => rfl) tw_571 rfl (by decide +kernel),
    ⟨_, so_getiN (ci := 0) (k := 5) (index := 205) rfl CF_0 (by decide +kernel) (fun _ _ _ => rfl) tw_271 rfl (by decide +kernel),
    ⟨_, so_icle (t := 4) (off := 6) (by decide +kernel) rfl,
    ⟨_, so_fall (pc' := 0) (t := 3) rfl,
    trivial⟩⟩⟩⟩⟩⟩⟩⟩⟩⟩⟩⟩⟩
  | 3 => ⟨_, so_bipush (n := (-4)) (by decide +kernel) (by decide +kernel) ⟨by decide, by decide⟩,
    ⟨_, so_iret (pc' := 0) rfl (by decide +kernel),
    trivial⟩⟩
  | 4 => ⟨_, so_iload_n (i := 1) (k := 1) (by decide +kernel) rfl,
    ⟨_, so_ifne (t := 5) (off := 11) (by decide +kernel) rfl,
    ⟨_, so_aload_n (i := 0) (k := 0) (by decide +kernel) rfl,
    ⟨_, so_getr (ci := 11) (k := 6) (index := 54) rfl CF_11 (by decide +kernel) (fun _ _ _ => rfl) tw_571 rfl (by decide +kernel),
    ⟨_, so_invV (mi' := m_Cl_gain) (ci := 0) (n := 0) (index := 209) rfl rfl tw_808 tw_809 ⟨tw_810, tw_71, ⟨by decide +kernel, by decide +kernel, by decide +kernel⟩, by decide +kernel⟩ tw_807 (by decide +kernel),
    ⟨_, so_iret (pc' := 0) rfl (by decide +kernel),
    trivial⟩⟩⟩⟩⟩⟩
  | 5 => ⟨_, so_aload_n (i := 0) (k := 0) (by decide +kernel) rfl,
    ⟨_, so_getr (ci := 11) (k := 6) (index := 54) rfl CF_11 (by decide +kernel) (fun _ _ _ => rfl) tw_571 rfl (by decide +kernel),
    ⟨_, so_invV (mi' := m_Cl_fillRow) (ci := 0) (n := 0) (index := 212) rfl rfl tw_812 tw_813 ⟨tw_814, tw_71, ⟨by decide +kernel, by decide +kernel, by decide +kernel⟩, by decide +kernel⟩ tw_811 (by decide +kernel),
    ⟨_, so_aload_n (i := 0) (k := 0) (by decide +kernel) rfl,
    ⟨_, so_getr (ci := 11) (k := 6) (index := 54) rfl CF_11 (by decide +kernel) (fun _ _ _ => rfl) tw_571 rfl (by decide +kernel),
    ⟨_, so_getrN (ci := 0) (k := 1) (index := 215) rfl CF_0 (by decide +kernel) (fun _ _ _ => rfl) tw_265 rfl (by decide +kernel),
    ⟨_, so_iload_n (i := 1) (k := 1) (by decide +kernel) rfl,
    ⟨_, so_iconst (n := (1)) (by decide +kernel) ⟨by decide, by decide⟩,
    ⟨_, so_isub (by decide +kernel),
    ⟨_, so_iald rfl (by decide +kernel),
    ⟨_, so_iret (pc' := 0) rfl (by decide +kernel),
    trivial⟩⟩⟩⟩⟩⟩⟩⟩⟩⟩⟩
  | _ + 6 => trivial
def c_Su_agree : List (List Op) := [
  [op_aload 0, op_getr SC 11 7, op_invV SC m_He_agreeNow 2 0, op_ifeq 1, op_ci (1), op_goto 2],
  [op_ci (0), op_goto 2],
  [op_iret]]
def t_Su_agree : Nat → Nat := fun t => [0, 14, 15].getD t 0
set_option maxRecDepth 100000 in
theorem ok_Su_agree : MOK SC m_Su_agree c_Su_agree t_Su_agree := fun t => match t with
  | 0 => ⟨_, so_aload_n (i := 0) (k := 0) (by decide +kernel) rfl,
    ⟨_, so_getr (ci := 11) (k := 7) (index := 61) rfl CF_11 (by decide +kernel) (fun _ _ _ => rfl) tw_572 rfl (by decide +kernel),
    ⟨_, so_invV (mi' := m_He_agreeNow) (ci := 2) (n := 0) (index := 218) rfl rfl tw_831 tw_832 ⟨tw_833, tw_72, ⟨by decide +kernel, by decide +kernel, by decide +kernel⟩, by decide +kernel⟩ tw_830 (by decide +kernel),
    ⟨_, so_ifeq (t := 1) (off := 7) (by decide +kernel) rfl,
    ⟨_, so_iconst (n := (1)) (by decide +kernel) ⟨by decide, by decide⟩,
    ⟨_, so_goto (pc' := 0) (t := 2) (off := 4) (by decide +kernel) rfl,
    trivial⟩⟩⟩⟩⟩⟩
  | 1 => ⟨_, so_iconst (n := (0)) (by decide +kernel) ⟨by decide, by decide⟩,
    ⟨_, so_fall (pc' := 0) (t := 2) rfl,
    trivial⟩⟩
  | 2 => ⟨_, so_iret (pc' := 0) rfl (by decide +kernel),
    trivial⟩
  | _ + 3 => trivial
def c_Su_height : List (List Op) := [
  [op_aload 0, op_getr SC 11 2, op_iload 1, op_invV SC m_Co_hasPlace 1 1, op_ifne 1, op_ci (-1), op_iret],
  [op_aload 0, op_getr SC 11 7, op_invV SC m_He_agreeNow 2 0, op_ifeq 2, op_aload 0, op_getr SC 11 7, op_iload 1, op_invV SC m_He_of 2 1, op_ci (1000), op_iadd, op_goto 3],
  [op_ci (-4), op_goto 3],
  [op_iret]]
def t_Su_height : Nat → Nat := fun t => [0, 13, 38, 40].getD t 0
set_option maxRecDepth 100000 in
theorem ok_Su_height : MOK SC m_Su_height c_Su_height t_Su_height := fun t => match t with
  | 0 => ⟨_, so_aload_n (i := 0) (k := 0) (by decide +kernel) rfl,
    ⟨_, so_getr (ci := 11) (k := 2) (index := 26) rfl CF_11 (by decide +kernel) (fun _ _ _ => rfl) tw_567 rfl (by decide +kernel),
    ⟨_, so_iload_n (i := 1) (k := 1) (by decide +kernel) rfl,
    ⟨_, so_invV (mi' := m_Co_hasPlace) (ci := 1) (n := 1) (index := 221) rfl rfl tw_522 tw_523 ⟨tw_524, tw_67, ⟨by decide +kernel, by decide +kernel, by decide +kernel⟩, by decide +kernel⟩ tw_874 (by decide +kernel),
    ⟨_, so_ifne (t := 1) (off := 5) (by decide +kernel) rfl,
    ⟨_, so_iconst (n := (-1)) (by decide +kernel) ⟨by decide, by decide⟩,
    ⟨_, so_iret (pc' := 0) rfl (by decide +kernel),
    trivial⟩⟩⟩⟩⟩⟩⟩
  | 1 => ⟨_, so_aload_n (i := 0) (k := 0) (by decide +kernel) rfl,
    ⟨_, so_getr (ci := 11) (k := 7) (index := 61) rfl CF_11 (by decide +kernel) (fun _ _ _ => rfl) tw_572 rfl (by decide +kernel),
    ⟨_, so_invV (mi' := m_He_agreeNow) (ci := 2) (n := 0) (index := 218) rfl rfl tw_831 tw_832 ⟨tw_833, tw_72, ⟨by decide +kernel, by decide +kernel, by decide +kernel⟩, by decide +kernel⟩ tw_830 (by decide +kernel),
    ⟨_, so_ifeq (t := 2) (off := 18) (by decide +kernel) rfl,
    ⟨_, so_aload_n (i := 0) (k := 0) (by decide +kernel) rfl,
    ⟨_, so_getr (ci := 11) (k := 7) (index := 61) rfl CF_11 (by decide +kernel) (fun _ _ _ => rfl) tw_572 rfl (by decide +kernel),
    ⟨_, so_iload_n (i := 1) (k := 1) (by decide +kernel) rfl,
    ⟨_, so_invV (mi' := m_He_of) (ci := 2) (n := 1) (index := 224) rfl rfl tw_867 tw_868 ⟨tw_869, tw_72, ⟨by decide +kernel, by decide +kernel, by decide +kernel⟩, by decide +kernel⟩ tw_875 (by decide +kernel),
    ⟨_, so_sipush (n := (1000)) (by decide +kernel) (by decide +kernel) ⟨by decide, by decide⟩,
    ⟨_, so_iadd (by decide +kernel),
    ⟨_, so_goto (pc' := 0) (t := 3) (off := 5) (by decide +kernel) rfl,
    trivial⟩⟩⟩⟩⟩⟩⟩⟩⟩⟩⟩
  | 2 => ⟨_, so_bipush (n := (-4)) (by decide +kernel) (by decide +kernel) ⟨by decide, by decide⟩,
    ⟨_, so_fall (pc' := 0) (t := 3) rfl,
    trivial⟩⟩
  | 3 => ⟨_, so_iret (pc' := 0) rfl (by decide +kernel),
    trivial⟩
  | _ + 4 => trivial
def c_Su_ring : List (List Op) := [
  [op_iload 1, op_invS SC m_Su_isEither 1, op_ifne 1, op_ci (-1), op_iret],
  [op_aload 0, op_getr SC 11 8, op_invV SC m_Ri_find 6 0, op_ifne 2, op_ci (-4), op_iret],
  [op_iload 1, op_ifne 3, op_aload 0, op_getr SC 11 8, op_geti SC 6 7, op_goto 4],
  [op_aload 0, op_getr SC 11 8, op_geti SC 6 8, op_goto 4],
  [op_iret]]
def t_Su_ring : Nat → Nat := fun t => [0, 9, 22, 36, 43].getD t 0
set_option maxRecDepth 100000 in
theorem ok_Su_ring : MOK SC m_Su_ring c_Su_ring t_Su_ring := fun t => match t with
  | 0 => ⟨_, so_iload_n (i := 1) (k := 1) (by decide +kernel) rfl,
    ⟨_, so_invS (mi' := m_Su_isEither) (n := 1) (index := 193) tw_741 ⟨tw_742, tw_64, ⟨by decide +kernel, by decide +kernel, by decide +kernel⟩, by decide +kernel⟩ tw_740 (by decide +kernel),
    ⟨_, so_ifne (t := 1) (off := 5) (by decide +kernel) rfl,
    ⟨_, so_iconst (n := (-1)) (by decide +kernel) ⟨by decide, by decide⟩,
    ⟨_, so_iret (pc' := 0) rfl (by decide +kernel),
    trivial⟩⟩⟩⟩⟩
  | 1 => ⟨_, so_aload_n (i := 0) (k := 0) (by decide +kernel) rfl,
    ⟨_, so_getr (ci := 11) (k := 8) (index := 68) rfl CF_11 (by decide +kernel) (fun _ _ _ => rfl) tw_573 rfl (by decide +kernel),
    ⟨_, so_invV (mi' := m_Ri_find) (ci := 6) (n := 0) (index := 227) rfl rfl tw_881 tw_882 ⟨tw_883, tw_73, ⟨by decide +kernel, by decide +kernel, by decide +kernel⟩, by decide +kernel⟩ tw_880 (by decide +kernel),
    ⟨_, so_ifne (t := 2) (off := 6) (by decide +kernel) rfl,
    ⟨_, so_bipush (n := (-4)) (by decide +kernel) (by decide +kernel) ⟨by decide, by decide⟩,
    ⟨_, so_iret (pc' := 0) rfl (by decide +kernel),
    trivial⟩⟩⟩⟩⟩⟩
  | 2 => ⟨_, so_iload_n (i := 1) (k := 1) (by decide +kernel) rfl,
    ⟨_, so_ifne (t := 3) (off := 13) (by decide +kernel) rfl,
    ⟨_, so_aload_n (i := 0) (k := 0) (by decide +kernel) rfl,
    ⟨_, so_getr (ci := 11) (k := 8) (index := 68) rfl CF_11 (by decide +kernel) (fun _ _ _ => rfl) tw_573 rfl (by decide +kernel),
    ⟨_, so_getiN (ci := 6) (k := 7) (index := 230) rfl CF_6 (by decide +kernel) (fun _ _ _ => rfl) tw_315 rfl (by decide +kernel),
    ⟨_, so_goto (pc' := 0) (t := 4) (off := 10) (by decide +kernel) rfl,
    trivial⟩⟩⟩⟩⟩⟩
  | 3 => ⟨_, so_aload_n (i := 0) (k := 0) (by decide +kernel) rfl,
    ⟨_, so_getr (ci := 11) (k := 8) (index := 68) rfl CF_11 (by decide +kernel) (fun _ _ _ => rfl) tw_573 rfl (by decide +kernel),
    ⟨_, so_getiN (ci := 6) (k := 8) (index := 232) rfl CF_6 (by decide +kernel) (fun _ _ _ => rfl) tw_317 rfl (by decide +kernel),
    ⟨_, so_fall (pc' := 0) (t := 4) rfl,
    trivial⟩⟩⟩⟩
  | 4 => ⟨_, so_iret (pc' := 0) rfl (by decide +kernel),
    trivial⟩
  | _ + 5 => trivial
def c_Su_fewest : List (List Op) := [
  [op_aload 0, op_getr SC 11 7, op_invV SC m_He_fewestToShut 2 0, op_iret]]
def t_Su_fewest : Nat → Nat := fun t => [0].getD t 0
set_option maxRecDepth 100000 in
theorem ok_Su_fewest : MOK SC m_Su_fewest c_Su_fewest t_Su_fewest := fun t => match t with
  | 0 => ⟨_, so_aload_n (i := 0) (k := 0) (by decide +kernel) rfl,
    ⟨_, so_getr (ci := 11) (k := 7) (index := 61) rfl CF_11 (by decide +kernel) (fun _ _ _ => rfl) tw_572 rfl (by decide +kernel),
    ⟨_, so_invV (mi' := m_He_fewestToShut) (ci := 2) (n := 0) (index := 235) rfl rfl tw_916 tw_917 ⟨tw_918, tw_72, ⟨by decide +kernel, by decide +kernel, by decide +kernel⟩, by decide +kernel⟩ tw_915 (by decide +kernel),
    ⟨_, so_iret (pc' := 0) rfl (by decide +kernel),
    trivial⟩⟩⟩⟩
  | _ + 1 => trivial
def c_Su_third : List (List Op) := [
  [op_aload 0, op_getr SC 11 2, op_iload 1, op_invV SC m_Co_hasPlace 1 1, op_ifeq 1, op_aload 0, op_getr SC 11 2, op_iload 2, op_invV SC m_Co_hasPlace 1 1, op_ifeq 1, op_iload 1, op_iload 2, op_icne 2, op_goto 1],
  [op_ci (-1), op_iret],
  [op_aload 0, op_getr SC 11 7, op_invV SC m_He_agreeNow 2 0, op_ifeq 3, op_aload 0, op_getr SC 11 7, op_iload 1, op_iload 2, op_invV SC m_He_hangTogether 2 2, op_ifne 4, op_goto 3],
  [op_ci (-4), op_iret],
  [op_ci (20), op_aload 0, op_getr SC 11 7, op_iload 2, op_invV SC m_He_of 2 1, op_iadd, op_aload 0, op_getr SC 11 7, op_iload 1, op_invV SC m_He_of 2 1, op_isub, op_istore 3, op_iload 3, op_invS SC m_Su_isFigure 1, op_ifeq 5, op_iload 3, op_goto 6],
  [op_ci (-4), op_goto 6],
  [op_iret]]
def t_Su_third : Nat → Nat := fun t => [0, 27, 29, 51, 54, 86, 88].getD t 0
set_option maxRecDepth 100000 in
theorem ok_Su_third : MOK SC m_Su_third c_Su_third t_Su_third := fun t => match t with
  | 0 => ⟨_, so_aload_n (i := 0) (k := 0) (by decide +kernel) rfl,
    ⟨_, so_getr (ci := 11) (k := 2) (index := 26) rfl CF_11 (by decide +kernel) (fun _ _ _ => rfl) tw_567 rfl (by decide +kernel),
    ⟨_, so_iload_n (i := 1) (k := 1) (by decide +kernel) rfl,
    ⟨_, so_invV (mi' := m_Co_hasPlace) (ci := 1) (n := 1) (index := 221) rfl rfl tw_522 tw_523 ⟨tw_524, tw_67, ⟨by decide +kernel, by decide +kernel, by decide +kernel⟩, by decide +kernel⟩ tw_874 (by decide +kernel),
    ⟨_, so_ifeq (t := 1) (off := 19) (by decide +kernel) rfl,
    ⟨_, so_aload_n (i := 0) (k := 0) (by decide +kernel) rfl,
    ⟨_, so_getr (ci := 11) (k := 2) (index := 26) rfl CF_11 (by decide +kernel) (fun _ _ _ => rfl) tw_567 rfl (by decide +kernel),
    ⟨_, so_iload_n (i := 2) (k := 2) (by decide +kernel) rfl,
    ⟨_, so_invV (mi' := m_Co_hasPlace) (ci := 1) (n := 1) (index := 221) rfl rfl tw_522 tw_523 ⟨tw_524, tw_67, ⟨by decide +kernel, by decide +kernel, by decide +kernel⟩, by decide +kernel⟩ tw_874 (by decide +kernel),
    ⟨_, so_ifeq (t := 1) (off := 8) (by decide +kernel) rfl,
    ⟨_, so_iload_n (i := 1) (k := 1) (by decide +kernel) rfl,
    ⟨_, so_iload_n (i := 2) (k := 2) (by decide +kernel) rfl,
    ⟨_, so_icne (t := 2) (off := 5) (by decide +kernel) rfl,
    ⟨_, so_fall (pc' := 0) (t := 1) rfl,
    trivial⟩⟩⟩⟩⟩⟩⟩⟩⟩⟩⟩⟩⟩⟩
  | 1 => ⟨_, so_iconst (n := (-1)) (by decide +kernel) ⟨by decide, by decide⟩,
    ⟨_, so_iret (pc' := 0) rfl (by decide +kernel),
    trivial⟩⟩
  | 2 => ⟨_, so_aload_n (i := 0) (k := 0) (by decide +kernel) rfl,
    ⟨_, so_getr (ci := 11) (k := 7) (index := 61) rfl CF_11 (by decide +kernel) (fun _ _ _ => rfl) tw_572 rfl (by decide +kernel),
    ⟨_, so_invV (mi' := m_He_agreeNow) (ci := 2) (n := 0) (index := 218) rfl rfl tw_831 tw_832 ⟨tw_833, tw_72, ⟨by decide +kernel, by decide +kernel, by decide +kernel⟩, by decide +kernel⟩ tw_830 (by decide +kernel),
    ⟨_, so_ifeq (t := 3) (off := 15) (by decide +kernel) rfl,
    ⟨_, so_aload_n (i := 0) (k := 0) (by decide +kernel) rfl,
    ⟨_, so_getr (ci := 11) (k := 7) (index := 61) rfl CF_11 (by decide +kernel) (fun _ _ _ => rfl) tw_572 rfl (by decide +kernel),
    ⟨_, so_iload_n (i := 1) (k := 1) (by decide +kernel) rfl,
    ⟨_, so_iload_n (i := 2) (k := 2) (by decide +kernel) rfl,
    ⟨_, so_invV (mi' := m_He_hangTogether) (ci := 2) (n := 2) (index := 238) rfl rfl tw_929 tw_930 ⟨tw_931, tw_72, ⟨by decide +kernel, by decide +kernel, by decide +kernel⟩, by decide +kernel⟩ tw_928 (by decide +kernel),
    ⟨_, so_ifne (t := 4) (off := 6) (by decide +kernel) rfl,
    ⟨_, so_fall (pc' := 0) (t := 3) rfl,
    trivial⟩⟩⟩⟩⟩⟩⟩⟩⟩⟩⟩
  | 3 => ⟨_, so_bipush (n := (-4)) (by decide +kernel) (by decide +kernel) ⟨by decide, by decide⟩,
    ⟨_, so_iret (pc' := 0) rfl (by decide +kernel),
    trivial⟩⟩
  | 4 => ⟨_, so_bipush (n := (20)) (by decide +kernel) (by decide +kernel) ⟨by decide, by decide⟩,
    ⟨_, so_aload_n (i := 0) (k := 0) (by decide +kernel) rfl,
    ⟨_, so_getr (ci := 11) (k := 7) (index := 61) rfl CF_11 (by decide +kernel) (fun _ _ _ => rfl) tw_572 rfl (by decide +kernel),
    ⟨_, so_iload_n (i := 2) (k := 2) (by decide +kernel) rfl,
    ⟨_, so_invV (mi' := m_He_of) (ci := 2) (n := 1) (index := 224) rfl rfl tw_867 tw_868 ⟨tw_869, tw_72, ⟨by decide +kernel, by decide +kernel, by decide +kernel⟩, by decide +kernel⟩ tw_875 (by decide +kernel),
    ⟨_, so_iadd (by decide +kernel),
    ⟨_, so_aload_n (i := 0) (k := 0) (by decide +kernel) rfl,
    ⟨_, so_getr (ci := 11) (k := 7) (index := 61) rfl CF_11 (by decide +kernel) (fun _ _ _ => rfl) tw_572 rfl (by decide +kernel),
    ⟨_, so_iload_n (i := 1) (k := 1) (by decide +kernel) rfl,
    ⟨_, so_invV (mi' := m_He_of) (ci := 2) (n := 1) (index := 224) rfl rfl tw_867 tw_868 ⟨tw_869, tw_72, ⟨by decide +kernel, by decide +kernel, by decide +kernel⟩, by decide +kernel⟩ tw_875 (by decide +kernel),
    ⟨_, so_isub (by decide +kernel),
    ⟨_, so_istore_n (i := 3) (k := 3) (by decide +kernel) rfl (by decide +kernel),
    ⟨_, so_iload_n (i := 3) (k := 3) (by decide +kernel) rfl,
    ⟨_, so_invS (mi' := m_Su_isFigure) (n := 1) (index := 169) tw_704 ⟨tw_705, tw_64, ⟨by decide +kernel, by decide +kernel, by decide +kernel⟩, by decide +kernel⟩ tw_703 (by decide +kernel),
    ⟨_, so_ifeq (t := 5) (off := 7) (by decide +kernel) rfl,
    ⟨_, so_iload_n (i := 3) (k := 3) (by decide +kernel) rfl,
    ⟨_, so_goto (pc' := 0) (t := 6) (off := 5) (by decide +kernel) rfl,
    trivial⟩⟩⟩⟩⟩⟩⟩⟩⟩⟩⟩⟩⟩⟩⟩⟩⟩
  | 5 => ⟨_, so_bipush (n := (-4)) (by decide +kernel) (by decide +kernel) ⟨by decide, by decide⟩,
    ⟨_, so_fall (pc' := 0) (t := 6) rfl,
    trivial⟩⟩
  | 6 => ⟨_, so_iret (pc' := 0) rfl (by decide +kernel),
    trivial⟩
  | _ + 7 => trivial
def c_Su_tell : List (List Op) := [
  [op_aload 0, op_getr SC 11 2, op_iload 1, op_invV SC m_Co_hasPlace 1 1, op_ifeq 1, op_iload 2, op_invS SC m_Su_isSum 1, op_ifeq 1, op_iload 5, op_invS SC m_Su_isSum 1, op_ifeq 1, op_aload 0, op_getr SC 11 2, op_iload 3, op_iload 1, op_invV SC m_Co_leadsOn 1 2, op_ifne 2, op_goto 1],
  [op_ci (-1), op_iret],
  [op_iload 4, op_ci (-4), op_iceq 3, op_aload 0, op_getr SC 11 2, op_iload 4, op_aload 0, op_getr SC 11 2, op_iload 3, op_iload 1, op_invV SC m_Co_otherEnd 1 2, op_invV SC m_Co_leadsOn 1 2, op_ifne 3, op_ci (-1), op_iret],
  [op_aload 0, op_getr SC 11 9, op_iload 1, op_iload 2, op_iload 3, op_iload 4, op_iload 5, op_invV SC m_To_add 8 5, op_ifeq 4, op_aload 0, op_getr SC 11 9, op_invV SC m_To_size 8 0, op_goto 5],
  [op_ci (-3), op_goto 5],
  [op_iret]]
def t_Su_tell : Nat → Nat := fun t => [0, 38, 40, 70, 97, 99].getD t 0
set_option maxRecDepth 100000 in
theorem ok_Su_tell : MOK SC m_Su_tell c_Su_tell t_Su_tell := fun t => match t with
  | 0 => ⟨_, so_aload_n (i := 0) (k := 0) (by decide +kernel) rfl,
    ⟨_, so_getr (ci := 11) (k := 2) (index := 26) rfl CF_11 (by decide +kernel) (fun _ _ _ => rfl) tw_567 rfl (by decide +kernel),
    ⟨_, so_iload_n (i := 1) (k := 1) (by decide +kernel) rfl,
    ⟨_, so_invV (mi' := m_Co_hasPlace) (ci := 1) (n := 1) (index := 221) rfl rfl tw_522 tw_523 ⟨tw_524, tw_67, ⟨by decide +kernel, by decide +kernel, by decide +kernel⟩, by decide +kernel⟩ tw_874 (by decide +kernel),
    ⟨_, so_ifeq (t := 1) (off := 30) (by decide +kernel) rfl,
    ⟨_, so_iload_n (i := 2) (k := 2) (by decide +kernel) rfl,
    ⟨_, so_invS (mi' := m_Su_isSum) (n := 1) (index := 242) tw_937 ⟨tw_938, tw_64, ⟨by decide +kernel, by decide +kernel, by decide +kernel⟩, by decide +kernel⟩ tw_936 (by decide +kernel),
    ⟨_, so_ifeq (t := 1) (off := 23) (by decide +kernel) rfl,
    ⟨_, so_iload (i := 5) (by decide +kernel),
    ⟨_, so_invS (mi' := m_Su_isSum) (n := 1) (index := 242) tw_937 ⟨tw_938, tw_64, ⟨by decide +kernel, by decide +kernel, by decide +kernel⟩, by decide +kernel⟩ tw_936 (by decide +kernel),
    ⟨_, so_ifeq (t := 1) (off := 15) (by decide +kernel) rfl,
    ⟨_, so_aload_n (i := 0) (k := 0) (by decide +kernel) rfl,
    ⟨_, so_getr (ci := 11) (k := 2) (index := 26) rfl CF_11 (by decide +kernel) (fun _ _ _ => rfl) tw_567 rfl (by decide +kernel),
    ⟨_, so_iload_n (i := 3) (k := 3) (by decide +kernel) rfl,
    ⟨_, so_iload_n (i := 1) (k := 1) (by decide +kernel) rfl,
    ⟨_, so_invV (mi' := m_Co_leadsOn) (ci := 1) (n := 2) (index := 245) rfl rfl tw_662 tw_663 ⟨tw_664, tw_67, ⟨by decide +kernel, by decide +kernel, by decide +kernel⟩, by decide +kernel⟩ tw_939 (by decide +kernel),
    ⟨_, so_ifne (t := 2) (off := 5) (by decide +kernel) rfl,
    ⟨_, so_fall (pc' := 0) (t := 1) rfl,
    trivial⟩⟩⟩⟩⟩⟩⟩⟩⟩⟩⟩⟩⟩⟩⟩⟩⟩⟩
  | 1 => ⟨_, so_iconst (n := (-1)) (by decide +kernel) ⟨by decide, by decide⟩,
    ⟨_, so_iret (pc' := 0) rfl (by decide +kernel),
    trivial⟩⟩
  | 2 => ⟨_, so_iload (i := 4) (by decide +kernel),
    ⟨_, so_bipush (n := (-4)) (by decide +kernel) (by decide +kernel) ⟨by decide, by decide⟩,
    ⟨_, so_iceq (t := 3) (off := 26) (by decide +kernel) rfl,
    ⟨_, so_aload_n (i := 0) (k := 0) (by decide +kernel) rfl,
    ⟨_, so_getr (ci := 11) (k := 2) (index := 26) rfl CF_11 (by decide +kernel) (fun _ _ _ => rfl) tw_567 rfl (by decide +kernel),
    ⟨_, so_iload (i := 4) (by decide +kernel),
    ⟨_, so_aload_n (i := 0) (k := 0) (by decide +kernel) rfl,
    ⟨_, so_getr (ci := 11) (k := 2) (index := 26) rfl CF_11 (by decide +kernel) (fun _ _ _ => rfl) tw_567 rfl (by decide +kernel),
    ⟨_, so_iload_n (i := 3) (k := 3) (by decide +kernel) rfl,
    ⟨_, so_iload_n (i := 1) (k := 1) (by decide +kernel) rfl,
    ⟨_, so_invV (mi' := m_Co_otherEnd) (ci := 1) (n := 2) (index := 248) rfl rfl tw_683 tw_684 ⟨tw_685, tw_67, ⟨by decide +kernel, by decide +kernel, by decide +kernel⟩, by decide +kernel⟩ tw_940 (by decide +kernel),
    ⟨_, so_invV (mi' := m_Co_leadsOn) (ci := 1) (n := 2) (index := 245) rfl rfl tw_662 tw_663 ⟨tw_664, tw_67, ⟨by decide +kernel, by decide +kernel, by decide +kernel⟩, by decide +kernel⟩ tw_939 (by decide +kernel),
    ⟨_, so_ifne (t := 3) (off := 5) (by decide +kernel) rfl,
    ⟨_, so_iconst (n := (-1)) (by decide +kernel) ⟨by decide, by decide⟩,
    ⟨_, so_iret (pc' := 0) rfl (by decide +kernel),
    trivial⟩⟩⟩⟩⟩⟩⟩⟩⟩⟩⟩⟩⟩⟩⟩
  | 3 => ⟨_, so_aload_n (i := 0) (k := 0) (by decide +kernel) rfl,
    ⟨_, so_getr (ci := 11) (k := 9) (index := 75) rfl CF_11 (by decide +kernel) (fun _ _ _ => rfl) tw_574 rfl (by decide +kernel),
    ⟨_, so_iload_n (i := 1) (k := 1) (by decide +kernel) rfl,
    ⟨_, so_iload_n (i := 2) (k := 2) (by decide +kernel) rfl,
    ⟨_, so_iload_n (i := 3) (k := 3) (by decide +kernel) rfl,
    ⟨_, so_iload (i := 4) (by decide +kernel),
    ⟨_, so_iload (i := 5) (by decide +kernel),
    ⟨_, so_invV (mi' := m_To_add) (ci := 8) (n := 5) (index := 252) rfl rfl tw_942 tw_943 ⟨tw_944, tw_74, ⟨by decide +kernel, by decide +kernel, by decide +kernel⟩, by decide +kernel⟩ tw_941 (by decide +kernel),
    ⟨_, so_ifeq (t := 4) (off := 13) (by decide +kernel) rfl,
    ⟨_, so_aload_n (i := 0) (k := 0) (by decide +kernel) rfl,
    ⟨_, so_getr (ci := 11) (k := 9) (index := 75) rfl CF_11 (by decide +kernel) (fun _ _ _ => rfl) tw_574 rfl (by decide +kernel),
    ⟨_, so_invV (mi' := m_To_size) (ci := 8) (n := 0) (index := 256) rfl rfl tw_946 tw_947 ⟨tw_948, tw_74, ⟨by decide +kernel, by decide +kernel, by decide +kernel⟩, by decide +kernel⟩ tw_945 (by decide +kernel),
    ⟨_, so_goto (pc' := 0) (t := 5) (off := 5) (by decide +kernel) rfl,
    trivial⟩⟩⟩⟩⟩⟩⟩⟩⟩⟩⟩⟩⟩
  | 4 => ⟨_, so_bipush (n := (-3)) (by decide +kernel) (by decide +kernel) ⟨by decide, by decide⟩,
    ⟨_, so_fall (pc' := 0) (t := 5) rfl,
    trivial⟩⟩
  | 5 => ⟨_, so_iret (pc' := 0) rfl (by decide +kernel),
    trivial⟩
  | _ + 6 => trivial
def c_Su_forget : List (List Op) := [
  [op_aload 0, op_getr SC 11 9, op_invV SC m_To_size 8 0, op_istore 1, op_aload 0, op_getr SC 11 9, op_invV SC m_To_clear 8 0, op_iload 1, op_iret]]
def t_Su_forget : Nat → Nat := fun t => [0].getD t 0
set_option maxRecDepth 100000 in
theorem ok_Su_forget : MOK SC m_Su_forget c_Su_forget t_Su_forget := fun t => match t with
  | 0 => ⟨_, so_aload_n (i := 0) (k := 0) (by decide +kernel) rfl,
    ⟨_, so_getr (ci := 11) (k := 9) (index := 75) rfl CF_11 (by decide +kernel) (fun _ _ _ => rfl) tw_574 rfl (by decide +kernel),
    ⟨_, so_invV (mi' := m_To_size) (ci := 8) (n := 0) (index := 256) rfl rfl tw_946 tw_947 ⟨tw_948, tw_74, ⟨by decide +kernel, by decide +kernel, by decide +kernel⟩, by decide +kernel⟩ tw_945 (by decide +kernel),
    ⟨_, so_istore_n (i := 1) (k := 1) (by decide +kernel) rfl (by decide +kernel),
    ⟨_, so_aload_n (i := 0) (k := 0) (by decide +kernel) rfl,
    ⟨_, so_getr (ci := 11) (k := 9) (index := 75) rfl CF_11 (by decide +kernel) (fun _ _ _ => rfl) tw_574 rfl (by decide +kernel),
    ⟨_, so_invV (mi' := m_To_clear) (ci := 8) (n := 0) (index := 257) rfl rfl tw_554 tw_555 ⟨tw_556, tw_74, ⟨by decide +kernel, by decide +kernel, by decide +kernel⟩, by decide +kernel⟩ tw_553 (by decide +kernel),
    ⟨_, so_iload_n (i := 1) (k := 1) (by decide +kernel) rfl,
    ⟨_, so_iret (pc' := 0) rfl (by decide +kernel),
    trivial⟩⟩⟩⟩⟩⟩⟩⟩⟩
  | _ + 1 => trivial
def c_Su_wrong : List (List Op) := [
  [op_aload 0, op_getr SC 11 9, op_invV SC m_To_wrongRoads 8 0, op_iret]]
def t_Su_wrong : Nat → Nat := fun t => [0].getD t 0
set_option maxRecDepth 100000 in
theorem ok_Su_wrong : MOK SC m_Su_wrong c_Su_wrong t_Su_wrong := fun t => match t with
  | 0 => ⟨_, so_aload_n (i := 0) (k := 0) (by decide +kernel) rfl,
    ⟨_, so_getr (ci := 11) (k := 9) (index := 75) rfl CF_11 (by decide +kernel) (fun _ _ _ => rfl) tw_574 rfl (by decide +kernel),
    ⟨_, so_invV (mi' := m_To_wrongRoads) (ci := 8) (n := 0) (index := 258) rfl rfl tw_958 tw_959 ⟨tw_960, tw_74, ⟨by decide +kernel, by decide +kernel, by decide +kernel⟩, by decide +kernel⟩ tw_957 (by decide +kernel),
    ⟨_, so_iret (pc' := 0) rfl (by decide +kernel),
    trivial⟩⟩⟩⟩
  | _ + 1 => trivial
def c_Su_walk : List (List Op) := [
  [op_iload 1, op_invS SC m_Su_isEither 1, op_ifne 1, op_ci (-1), op_iret],
  [op_aload 0, op_getr SC 11 9, op_invV SC m_To_findWalk 8 0, op_ifne 2, op_ci (-4), op_iret],
  [op_iload 1, op_ifne 3, op_aload 0, op_getr SC 11 9, op_geti SC 8 15, op_goto 4],
  [op_aload 0, op_getr SC 11 9, op_geti SC 8 16, op_goto 4],
  [op_iret]]
def t_Su_walk : Nat → Nat := fun t => [0, 9, 22, 36, 43].getD t 0
set_option maxRecDepth 100000 in
theorem ok_Su_walk : MOK SC m_Su_walk c_Su_walk t_Su_walk := fun t => match t with
  | 0 => ⟨_, so_iload_n (i := 1) (k := 1) (by decide +kernel) rfl,
    ⟨_, so_invS (mi' := m_Su_isEither) (n := 1) (index := 193) tw_741 ⟨tw_742, tw_64, ⟨by decide +kernel, by decide +kernel, by decide +kernel⟩, by decide +kernel⟩ tw_740 (by decide +kernel),
    ⟨_, so_ifne (t := 1) (off := 5) (by decide +kernel) rfl,
    ⟨_, so_iconst (n := (-1)) (by decide +kernel) ⟨by decide, by decide⟩,
    ⟨_, so_iret (pc' := 0) rfl (by decide +kernel),
    trivial⟩⟩⟩⟩⟩
  | 1 => ⟨_, so_aload_n (i := 0) (k := 0) (by decide +kernel) rfl,
    ⟨_, so_getr (ci := 11) (k := 9) (index := 75) rfl CF_11 (by decide +kernel) (fun _ _ _ => rfl) tw_574 rfl (by decide +kernel),
    ⟨_, so_invV (mi' := m_To_findWalk) (ci := 8) (n := 0) (index := 261) rfl rfl tw_991 tw_992 ⟨tw_993, tw_74, ⟨by decide +kernel, by decide +kernel, by decide +kernel⟩, by decide +kernel⟩ tw_990 (by decide +kernel),
    ⟨_, so_ifne (t := 2) (off := 6) (by decide +kernel) rfl,
    ⟨_, so_bipush (n := (-4)) (by decide +kernel) (by decide +kernel) ⟨by decide, by decide⟩,
    ⟨_, so_iret (pc' := 0) rfl (by decide +kernel),
    trivial⟩⟩⟩⟩⟩⟩
  | 2 => ⟨_, so_iload_n (i := 1) (k := 1) (by decide +kernel) rfl,
    ⟨_, so_ifne (t := 3) (off := 13) (by decide +kernel) rfl,
    ⟨_, so_aload_n (i := 0) (k := 0) (by decide +kernel) rfl,
    ⟨_, so_getr (ci := 11) (k := 9) (index := 75) rfl CF_11 (by decide +kernel) (fun _ _ _ => rfl) tw_574 rfl (by decide +kernel),
    ⟨_, so_getiN (ci := 8) (k := 15) (index := 264) rfl CF_8 (by decide +kernel) (fun _ _ _ => rfl) tw_359 rfl (by decide +kernel),
    ⟨_, so_goto (pc' := 0) (t := 4) (off := 10) (by decide +kernel) rfl,
    trivial⟩⟩⟩⟩⟩⟩
  | 3 => ⟨_, so_aload_n (i := 0) (k := 0) (by decide +kernel) rfl,
    ⟨_, so_getr (ci := 11) (k := 9) (index := 75) rfl CF_11 (by decide +kernel) (fun _ _ _ => rfl) tw_574 rfl (by decide +kernel),
    ⟨_, so_getiN (ci := 8) (k := 16) (index := 267) rfl CF_8 (by decide +kernel) (fun _ _ _ => rfl) tw_361 rfl (by decide +kernel),
    ⟨_, so_fall (pc' := 0) (t := 4) rfl,
    trivial⟩⟩⟩⟩
  | 4 => ⟨_, so_iret (pc' := 0) rfl (by decide +kernel),
    trivial⟩
  | _ + 5 => trivial
def c_Su_byTurns : List (List Op) := [
  [op_iload 1, op_invS SC m_Su_isEither 1, op_ifne 1, op_ci (-1), op_iret],
  [op_aload 0, op_getr SC 11 5, op_aload 0, op_getr SC 11 2, op_invV SC m_Co_steps 1 0, op_invV SC m_Wa_followPlan 9 1, op_ifne 2, op_ci (-4), op_iret],
  [op_aload 0, op_getr SC 11 5, op_geti SC 9 3, op_aload 0, op_getr SC 11 5, op_geti SC 9 2, op_aload 0, op_getr SC 11 2, op_getr SC 1 0, op_geti SC 7 1, op_isub, op_isub, op_istore 2, op_iload 1, op_ifne 3, op_iload 2, op_goto 4],
  [op_iload 2, op_ci (2), op_idiv, op_goto 4],
  [op_ci (5000), op_iadd, op_iret]]
def t_Su_byTurns : Nat → Nat := fun t => [0, 9, 29, 64, 67].getD t 0
set_option maxRecDepth 100000 in
theorem ok_Su_byTurns : MOK SC m_Su_byTurns c_Su_byTurns t_Su_byTurns := fun t => match t with
  | 0 => ⟨_, so_iload_n (i := 1) (k := 1) (by decide +kernel) rfl,
    ⟨_, so_invS (mi' := m_Su_isEither) (n := 1) (index := 193) tw_741 ⟨tw_742, tw_64, ⟨by decide +kernel, by decide +kernel, by decide +kernel⟩, by decide +kernel⟩ tw_740 (by decide +kernel),
    ⟨_, so_ifne (t := 1) (off := 5) (by decide +kernel) rfl,
    ⟨_, so_iconst (n := (-1)) (by decide +kernel) ⟨by decide, by decide⟩,
    ⟨_, so_iret (pc' := 0) rfl (by decide +kernel),
    trivial⟩⟩⟩⟩⟩
  | 1 => ⟨_, so_aload_n (i := 0) (k := 0) (by decide +kernel) rfl,
    ⟨_, so_getr (ci := 11) (k := 5) (index := 47) rfl CF_11 (by decide +kernel) (fun _ _ _ => rfl) tw_570 rfl (by decide +kernel),
    ⟨_, so_aload_n (i := 0) (k := 0) (by decide +kernel) rfl,
    ⟨_, so_getr (ci := 11) (k := 2) (index := 26) rfl CF_11 (by decide +kernel) (fun _ _ _ => rfl) tw_567 rfl (by decide +kernel),
    ⟨_, so_invV (mi' := m_Co_steps) (ci := 1) (n := 0) (index := 190) rfl rfl tw_737 tw_738 ⟨tw_739, tw_67, ⟨by decide +kernel, by decide +kernel, by decide +kernel⟩, by decide +kernel⟩ tw_736 (by decide +kernel),
    ⟨_, so_invV (mi' := m_Wa_followPlan) (ci := 9) (n := 1) (index := 196) rfl rfl tw_744 tw_745 ⟨tw_746, tw_70, ⟨by decide +kernel, by decide +kernel, by decide +kernel⟩, by decide +kernel⟩ tw_743 (by decide +kernel),
    ⟨_, so_ifne (t := 2) (off := 6) (by decide +kernel) rfl,
    ⟨_, so_bipush (n := (-4)) (by decide +kernel) (by decide +kernel) ⟨by decide, by decide⟩,
    ⟨_, so_iret (pc' := 0) rfl (by decide +kernel),
    trivial⟩⟩⟩⟩⟩⟩⟩⟩⟩
  | 2 => ⟨_, so_aload_n (i := 0) (k := 0) (by decide +kernel) rfl,
    ⟨_, so_getr (ci := 11) (k := 5) (index := 47) rfl CF_11 (by decide +kernel) (fun _ _ _ => rfl) tw_570 rfl (by decide +kernel),
    ⟨_, so_getiN (ci := 9) (k := 3) (index := 270) rfl CF_9 (by decide +kernel) (fun _ _ _ => rfl) tw_243 rfl (by decide +kernel),
    ⟨_, so_aload_n (i := 0) (k := 0) (by decide +kernel) rfl,
    ⟨_, so_getr (ci := 11) (k := 5) (index := 47) rfl CF_11 (by decide +kernel) (fun _ _ _ => rfl) tw_570 rfl (by decide +kernel),
    ⟨_, so_getiN (ci := 9) (k := 2) (index := 165) rfl CF_9 (by decide +kernel) (fun _ _ _ => rfl) tw_241 rfl (by decide +kernel),
    ⟨_, so_aload_n (i := 0) (k := 0) (by decide +kernel) rfl,
    ⟨_, so_getr (ci := 11) (k := 2) (index := 26) rfl CF_11 (by decide +kernel) (fun _ _ _ => rfl) tw_567 rfl (by decide +kernel),
    ⟨_, so_getrN (ci := 1) (k := 0) (index := 131) rfl CF_1 (by decide +kernel) (fun _ _ _ => rfl) tw_173 rfl (by decide +kernel),
    ⟨_, so_getiN (ci := 7) (k := 1) (index := 151) rfl CF_7 (by decide +kernel) (fun _ _ _ => rfl) tw_136 rfl (by decide +kernel),
    ⟨_, so_isub (by decide +kernel),
    ⟨_, so_isub (by decide +kernel),
    ⟨_, so_istore_n (i := 2) (k := 2) (by decide +kernel) rfl (by decide +kernel),
    ⟨_, so_iload_n (i := 1) (k := 1) (by decide +kernel) rfl,
    ⟨_, so_ifne (t := 3) (off := 7) (by decide +kernel) rfl,
    ⟨_, so_iload_n (i := 2) (k := 2) (by decide +kernel) rfl,
    ⟨_, so_goto (pc' := 0) (t := 4) (off := 6) (by decide +kernel) rfl,
    trivial⟩⟩⟩⟩⟩⟩⟩⟩⟩⟩⟩⟩⟩⟩⟩⟩⟩
  | 3 => ⟨_, so_iload_n (i := 2) (k := 2) (by decide +kernel) rfl,
    ⟨_, so_iconst (n := (2)) (by decide +kernel) ⟨by decide, by decide⟩,
    ⟨_, so_idiv (by decide +kernel),
    ⟨_, so_fall (pc' := 0) (t := 4) rfl,
    trivial⟩⟩⟩⟩
  | 4 => ⟨_, so_sipush (n := (5000)) (by decide +kernel) (by decide +kernel) ⟨by decide, by decide⟩,
    ⟨_, so_iadd (by decide +kernel),
    ⟨_, so_iret (pc' := 0) rfl (by decide +kernel),
    trivial⟩⟩⟩
  | _ + 5 => trivial
def c_Su_weather : List (List Op) := [
  [op_aload 0, op_getr SC 11 2, op_iload 1, op_invV SC m_Co_hasPlace 1 1, op_ifeq 1, op_aload 0, op_getr SC 11 2, op_iload 2, op_invV SC m_Co_hasPlace 1 1, op_ifeq 1, op_iload 3, op_iflt 1, op_iload 3, op_ci (10), op_icgt 1, op_iload 4, op_invS SC m_Su_isEither 1, op_ifne 2, op_goto 1],
  [op_ci (-1), op_iret],
  [op_aload 0, op_getr SC 11 10, op_iload 1, op_iload 2, op_iload 3, op_invV SC m_We_findChance 10 3, op_iload 4, op_ifne 3, op_aload 0, op_getr SC 11 10, op_getl SC 10 2, op_goto 4],
  [op_aload 0, op_getr SC 11 10, op_getl SC 10 3, op_goto 4],
  [op_l2i, op_iret]]
def t_Su_weather : Nat → Nat := fun t => [0, 40, 42, 67, 74].getD t 0
set_option maxRecDepth 100000 in
theorem ok_Su_weather : MOK SC m_Su_weather c_Su_weather t_Su_weather := fun t => match t with
  | 0 => ⟨_, so_aload_n (i := 0) (k := 0) (by decide +kernel) rfl,
    ⟨_, so_getr (ci := 11) (k := 2) (index := 26) rfl CF_11 (by decide +kernel) (fun _ _ _ => rfl) tw_567 rfl (by decide +kernel),
    ⟨_, so_iload_n (i := 1) (k := 1) (by decide +kernel) rfl,
    ⟨_, so_invV (mi' := m_Co_hasPlace) (ci := 1) (n := 1) (index := 221) rfl rfl tw_522 tw_523 ⟨tw_524, tw_67, ⟨by decide +kernel, by decide +kernel, by decide +kernel⟩, by decide +kernel⟩ tw_874 (by decide +kernel),
    ⟨_, so_ifeq (t := 1) (off := 32) (by decide +kernel) rfl,
    ⟨_, so_aload_n (i := 0) (k := 0) (by decide +kernel) rfl,
    ⟨_, so_getr (ci := 11) (k := 2) (index := 26) rfl CF_11 (by decide +kernel) (fun _ _ _ => rfl) tw_567 rfl (by decide +kernel),
    ⟨_, so_iload_n (i := 2) (k := 2) (by decide +kernel) rfl,
    ⟨_, so_invV (mi' := m_Co_hasPlace) (ci := 1) (n := 1) (index := 221) rfl rfl tw_522 tw_523 ⟨tw_524, tw_67, ⟨by decide +kernel, by decide +kernel, by decide +kernel⟩, by decide +kernel⟩ tw_874 (by decide +kernel),
    ⟨_, so_ifeq (t := 1) (off := 21) (by decide +kernel) rfl,
    ⟨_, so_iload_n (i := 3) (k := 3) (by decide +kernel) rfl,
    ⟨_, so_iflt (t := 1) (off := 17) (by decide +kernel) rfl,
    ⟨_, so_iload_n (i := 3) (k := 3) (by decide +kernel) rfl,
    ⟨_, so_bipush (n := (10)) (by decide +kernel) (by decide +kernel) ⟨by decide, by decide⟩,
    ⟨_, so_icgt (t := 1) (off := 11) (by decide +kernel) rfl,
    ⟨_, so_iload (i := 4) (by decide +kernel),
    ⟨_, so_invS (mi' := m_Su_isEither) (n := 1) (index := 193) tw_741 ⟨tw_742, tw_64, ⟨by decide +kernel, by decide +kernel, by decide +kernel⟩, by decide +kernel⟩ tw_740 (by decide +kernel),
    ⟨_, so_ifne (t := 2) (off := 5) (by decide +kernel) rfl,
    ⟨_, so_fall (pc' := 0) (t := 1) rfl,
    trivial⟩⟩⟩⟩⟩⟩⟩⟩⟩⟩⟩⟩⟩⟩⟩⟩⟩⟩⟩
  | 1 => ⟨_, so_iconst (n := (-1)) (by decide +kernel) ⟨by decide, by decide⟩,
    ⟨_, so_iret (pc' := 0) rfl (by decide +kernel),
    trivial⟩⟩
  | 2 => ⟨_, so_aload_n (i := 0) (k := 0) (by decide +kernel) rfl,
    ⟨_, so_getr (ci := 11) (k := 10) (index := 82) rfl CF_11 (by decide +kernel) (fun _ _ _ => rfl) tw_575 rfl (by decide +kernel),
    ⟨_, so_iload_n (i := 1) (k := 1) (by decide +kernel) rfl,
    ⟨_, so_iload_n (i := 2) (k := 2) (by decide +kernel) rfl,
    ⟨_, so_iload_n (i := 3) (k := 3) (by decide +kernel) rfl,
    ⟨_, so_invV (mi' := m_We_findChance) (ci := 10) (n := 3) (index := 273) rfl rfl tw_1009 tw_1010 ⟨tw_1011, tw_75, ⟨by decide +kernel, by decide +kernel, by decide +kernel⟩, by decide +kernel⟩ tw_1008 (by decide +kernel),
    ⟨_, so_iload (i := 4) (by decide +kernel),
    ⟨_, so_ifne (t := 3) (off := 13) (by decide +kernel) rfl,
    ⟨_, so_aload_n (i := 0) (k := 0) (by decide +kernel) rfl,
    ⟨_, so_getr (ci := 11) (k := 10) (index := 82) rfl CF_11 (by decide +kernel) (fun _ _ _ => rfl) tw_575 rfl (by decide +kernel),
    ⟨_, so_getlN (ci := 10) (k := 2) (index := 277) rfl CF_10 (by decide +kernel) (fun _ _ _ => rfl) tw_407 rfl (by decide +kernel),
    ⟨_, so_goto (pc' := 0) (t := 4) (off := 10) (by decide +kernel) rfl,
    trivial⟩⟩⟩⟩⟩⟩⟩⟩⟩⟩⟩⟩
  | 3 => ⟨_, so_aload_n (i := 0) (k := 0) (by decide +kernel) rfl,
    ⟨_, so_getr (ci := 11) (k := 10) (index := 82) rfl CF_11 (by decide +kernel) (fun _ _ _ => rfl) tw_575 rfl (by decide +kernel),
    ⟨_, so_getlN (ci := 10) (k := 3) (index := 281) rfl CF_10 (by decide +kernel) (fun _ _ _ => rfl) tw_409 rfl (by decide +kernel),
    ⟨_, so_fall (pc' := 0) (t := 4) rfl,
    trivial⟩⟩⟩⟩
  | 4 => ⟨_, so_l2i (by decide +kernel),
    ⟨_, so_iret (pc' := 0) rfl (by decide +kernel),
    trivial⟩⟩
  | _ + 5 => trivial
def c_Su_year : List (List Op) := [
  [op_iload 1, op_iflt 1, op_iload 1, op_ci (9999), op_icgt 1, op_iload 2, op_ci (1), op_iclt 1, op_iload 2, op_ci (60), op_icgt 1, op_iload 3, op_invS SC m_Su_isEither 1, op_ifne 2, op_goto 1],
  [op_ci (-1), op_iret],
  [op_aload 0, op_getr SC 11 5, op_iload 1, op_iload 2, op_invV SC m_Wa_followDraws 9 2, op_iload 3, op_ifne 3, op_aload 0, op_getr SC 11 5, op_geti SC 9 2, op_goto 4],
  [op_aload 0, op_getr SC 11 5, op_geti SC 9 4, op_goto 4],
  [op_iret]]
def t_Su_year : Nat → Nat := fun t => [0, 29, 31, 54, 61].getD t 0
set_option maxRecDepth 100000 in
theorem ok_Su_year : MOK SC m_Su_year c_Su_year t_Su_year := fun t => match t with
  | 0 => ⟨_, so_iload_n (i := 1) (k := 1) (by decide +kernel) rfl,
    ⟨_, so_iflt (t := 1) (off := 28) (by decide +kernel) rfl,
    ⟨_, so_iload_n (i := 1) (k := 1) (by decide +kernel) rfl,
    ⟨_, so_sipush (n := (9999)) (by decide +kernel) (by decide +kernel) ⟨by decide, by decide⟩,
    ⟨_, so_icgt (t := 1) (off := 21) (by decide +kernel) rfl,
    ⟨_, so_iload_n (i := 2) (k := 2) (by decide +kernel) rfl,
    ⟨_, so_iconst (n := (1)) (by decide +kernel) ⟨by decide, by decide⟩,
    ⟨_, so_iclt (t := 1) (off := 16) (by decide +kernel) rfl,
    ⟨_, so_iload_n (i := 2) (k := 2) (by decide +kernel) rfl,
    ⟨_, so_bipush (n := (60)) (by decide +kernel) (by decide +kernel) ⟨by decide, by decide⟩,
    ⟨_, so_icgt (t := 1) (off := 10) (by decide +kernel) rfl,
    ⟨_, so_iload_n (i := 3) (k := 3) (by decide +kernel) rfl,
    ⟨_, so_invS (mi' := m_Su_isEither) (n := 1) (index := 193) tw_741 ⟨tw_742, tw_64, ⟨by decide +kernel, by decide +kernel, by decide +kernel⟩, by decide +kernel⟩ tw_740 (by decide +kernel),
    ⟨_, so_ifne (t := 2) (off := 5) (by decide +kernel) rfl,
    ⟨_, so_fall (pc' := 0) (t := 1) rfl,
    trivial⟩⟩⟩⟩⟩⟩⟩⟩⟩⟩⟩⟩⟩⟩⟩
  | 1 => ⟨_, so_iconst (n := (-1)) (by decide +kernel) ⟨by decide, by decide⟩,
    ⟨_, so_iret (pc' := 0) rfl (by decide +kernel),
    trivial⟩⟩
  | 2 => ⟨_, so_aload_n (i := 0) (k := 0) (by decide +kernel) rfl,
    ⟨_, so_getr (ci := 11) (k := 5) (index := 47) rfl CF_11 (by decide +kernel) (fun _ _ _ => rfl) tw_570 rfl (by decide +kernel),
    ⟨_, so_iload_n (i := 1) (k := 1) (by decide +kernel) rfl,
    ⟨_, so_iload_n (i := 2) (k := 2) (by decide +kernel) rfl,
    ⟨_, so_invV (mi' := m_Wa_followDraws) (ci := 9) (n := 2) (index := 284) rfl rfl tw_1038 tw_1039 ⟨tw_1040, tw_70, ⟨by decide +kernel, by decide +kernel, by decide +kernel⟩, by decide +kernel⟩ tw_1037 (by decide +kernel),
    ⟨_, so_iload_n (i := 3) (k := 3) (by decide +kernel) rfl,
    ⟨_, so_ifne (t := 3) (off := 13) (by decide +kernel) rfl,
    ⟨_, so_aload_n (i := 0) (k := 0) (by decide +kernel) rfl,
    ⟨_, so_getr (ci := 11) (k := 5) (index := 47) rfl CF_11 (by decide +kernel) (fun _ _ _ => rfl) tw_570 rfl (by decide +kernel),
    ⟨_, so_getiN (ci := 9) (k := 2) (index := 165) rfl CF_9 (by decide +kernel) (fun _ _ _ => rfl) tw_241 rfl (by decide +kernel),
    ⟨_, so_goto (pc' := 0) (t := 4) (off := 10) (by decide +kernel) rfl,
    trivial⟩⟩⟩⟩⟩⟩⟩⟩⟩⟩⟩
  | 3 => ⟨_, so_aload_n (i := 0) (k := 0) (by decide +kernel) rfl,
    ⟨_, so_getr (ci := 11) (k := 5) (index := 47) rfl CF_11 (by decide +kernel) (fun _ _ _ => rfl) tw_570 rfl (by decide +kernel),
    ⟨_, so_getiN (ci := 9) (k := 4) (index := 288) rfl CF_9 (by decide +kernel) (fun _ _ _ => rfl) tw_245 rfl (by decide +kernel),
    ⟨_, so_fall (pc' := 0) (t := 4) rfl,
    trivial⟩⟩⟩⟩
  | 4 => ⟨_, so_iret (pc' := 0) rfl (by decide +kernel),
    trivial⟩
  | _ + 5 => trivial
def c_Su_keep : List (List Op) := [
  [op_aload 0, op_getr SC 11 4, op_invV SC m_Pi_isFull 4 0, op_ifeq 1, op_ci (-3), op_iret],
  [op_aload 0, op_getr SC 11 4, op_aload 0, op_getr SC 11 2, op_getr SC 1 0, op_invV SC m_Pi_push 4 1, op_aload 0, op_getr SC 11 4, op_invV SC m_Pi_size 4 0, op_iret]]
def t_Su_keep : Nat → Nat := fun t => [0, 13].getD t 0
set_option maxRecDepth 100000 in
theorem ok_Su_keep : MOK SC m_Su_keep c_Su_keep t_Su_keep := fun t => match t with
  | 0 => ⟨_, so_aload_n (i := 0) (k := 0) (by decide +kernel) rfl,
    ⟨_, so_getr (ci := 11) (k := 4) (index := 39) rfl CF_11 (by decide +kernel) (fun _ _ _ => rfl) tw_569 rfl (by decide +kernel),
    ⟨_, so_invV (mi' := m_Pi_isFull) (ci := 4) (n := 0) (index := 291) rfl rfl tw_691 tw_692 ⟨tw_693, tw_69, ⟨by decide +kernel, by decide +kernel, by decide +kernel⟩, by decide +kernel⟩ tw_1053 (by decide +kernel),
    ⟨_, so_ifeq (t := 1) (off := 6) (by decide +kernel) rfl,
    ⟨_, so_bipush (n := (-3)) (by decide +kernel) (by decide +kernel) ⟨by decide, by decide⟩,
    ⟨_, so_iret (pc' := 0) rfl (by decide +kernel),
    trivial⟩⟩⟩⟩⟩⟩
  | 1 => ⟨_, so_aload_n (i := 0) (k := 0) (by decide +kernel) rfl,
    ⟨_, so_getr (ci := 11) (k := 4) (index := 39) rfl CF_11 (by decide +kernel) (fun _ _ _ => rfl) tw_569 rfl (by decide +kernel),
    ⟨_, so_aload_n (i := 0) (k := 0) (by decide +kernel) rfl,
    ⟨_, so_getr (ci := 11) (k := 2) (index := 26) rfl CF_11 (by decide +kernel) (fun _ _ _ => rfl) tw_567 rfl (by decide +kernel),
    ⟨_, so_getrN (ci := 1) (k := 0) (index := 131) rfl CF_1 (by decide +kernel) (fun _ _ _ => rfl) tw_173 rfl (by decide +kernel),
    ⟨_, so_invV (mi' := m_Pi_push) (ci := 4) (n := 1) (index := 160) rfl rfl tw_687 tw_688 ⟨tw_689, tw_69, ⟨by decide +kernel, by decide +kernel, by decide +kernel⟩, by decide +kernel⟩ tw_686 (by decide +kernel),
    ⟨_, so_aload_n (i := 0) (k := 0) (by decide +kernel) rfl,
    ⟨_, so_getr (ci := 11) (k := 4) (index := 39) rfl CF_11 (by decide +kernel) (fun _ _ _ => rfl) tw_569 rfl (by decide +kernel),
    ⟨_, so_invV (mi' := m_Pi_size) (ci := 4) (n := 0) (index := 187) rfl rfl tw_729 tw_730 ⟨tw_731, tw_69, ⟨by decide +kernel, by decide +kernel, by decide +kernel⟩, by decide +kernel⟩ tw_728 (by decide +kernel),
    ⟨_, so_iret (pc' := 0) rfl (by decide +kernel),
    trivial⟩⟩⟩⟩⟩⟩⟩⟩⟩⟩
  | _ + 2 => trivial
def c_Su_back : List (List Op) := [
  [op_aload 0, op_getr SC 11 4, op_aload 0, op_getr SC 11 2, op_getr SC 1 0, op_invV SC m_Pi_popInto 4 1, op_ifne 1, op_ci (-2), op_iret],
  [op_aload 0, op_getr SC 11 3, op_invV SC m_Pi_clear 4 0, op_aload 0, op_getr SC 11 4, op_invV SC m_Pi_size 4 0, op_iret]]
def t_Su_back : Nat → Nat := fun t => [0, 20].getD t 0
set_option maxRecDepth 100000 in
theorem ok_Su_back : MOK SC m_Su_back c_Su_back t_Su_back := fun t => match t with
  | 0 => ⟨_, so_aload_n (i := 0) (k := 0) (by decide +kernel) rfl,
    ⟨_, so_getr (ci := 11) (k := 4) (index := 39) rfl CF_11 (by decide +kernel) (fun _ _ _ => rfl) tw_569 rfl (by decide +kernel),
    ⟨_, so_aload_n (i := 0) (k := 0) (by decide +kernel) rfl,
    ⟨_, so_getr (ci := 11) (k := 2) (index := 26) rfl CF_11 (by decide +kernel) (fun _ _ _ => rfl) tw_567 rfl (by decide +kernel),
    ⟨_, so_getrN (ci := 1) (k := 0) (index := 131) rfl CF_1 (by decide +kernel) (fun _ _ _ => rfl) tw_173 rfl (by decide +kernel),
    ⟨_, so_invV (mi' := m_Pi_popInto) (ci := 4) (n := 1) (index := 183) rfl rfl tw_725 tw_726 ⟨tw_727, tw_69, ⟨by decide +kernel, by decide +kernel, by decide +kernel⟩, by decide +kernel⟩ tw_724 (by decide +kernel),
    ⟨_, so_ifne (t := 1) (off := 6) (by decide +kernel) rfl,
    ⟨_, so_bipush (n := (-2)) (by decide +kernel) (by decide +kernel) ⟨by decide, by decide⟩,
    ⟨_, so_iret (pc' := 0) rfl (by decide +kernel),
    trivial⟩⟩⟩⟩⟩⟩⟩⟩⟩
  | 1 => ⟨_, so_aload_n (i := 0) (k := 0) (by decide +kernel) rfl,
    ⟨_, so_getr (ci := 11) (k := 3) (index := 35) rfl CF_11 (by decide +kernel) (fun _ _ _ => rfl) tw_568 rfl (by decide +kernel),
    ⟨_, so_invV (mi' := m_Pi_clear) (ci := 4) (n := 0) (index := 294) rfl rfl tw_558 tw_559 ⟨tw_560, tw_69, ⟨by decide +kernel, by decide +kernel, by decide +kernel⟩, by decide +kernel⟩ tw_557 (by decide +kernel),
    ⟨_, so_aload_n (i := 0) (k := 0) (by decide +kernel) rfl,
    ⟨_, so_getr (ci := 11) (k := 4) (index := 39) rfl CF_11 (by decide +kernel) (fun _ _ _ => rfl) tw_569 rfl (by decide +kernel),
    ⟨_, so_invV (mi' := m_Pi_size) (ci := 4) (n := 0) (index := 187) rfl rfl tw_729 tw_730 ⟨tw_731, tw_69, ⟨by decide +kernel, by decide +kernel, by decide +kernel⟩, by decide +kernel⟩ tw_728 (by decide +kernel),
    ⟨_, so_iret (pc' := 0) rfl (by decide +kernel),
    trivial⟩⟩⟩⟩⟩⟩⟩
  | _ + 2 => trivial
def c_Su_count : List (List Op) := [
  [op_iload 1, op_table (0) [1, 2, 3, 4, 5, 6, 7, 8, 9] 10],
  [op_aload 0, op_getr SC 11 2, op_invV SC m_Co_places 1 0, op_iret],
  [op_aload 0, op_getr SC 11 2, op_invV SC m_Co_roads 1 0, op_iret],
  [op_aload 0, op_getr SC 11 2, op_getr SC 1 0, op_geti SC 7 3, op_invS SC m_Jd_bitCount 1, op_iret],
  [op_aload 0, op_getr SC 11 2, op_invV SC m_Co_steps 1 0, op_iret],
  [op_aload 0, op_getr SC 11 2, op_getr SC 1 0, op_geti SC 7 2, op_iret],
  [op_aload 0, op_getr SC 11 9, op_invV SC m_To_size 8 0, op_iret],
  [op_aload 0, op_getr SC 11 3, op_invV SC m_Pi_size 4 0, op_iret],
  [op_aload 0, op_getr SC 11 4, op_invV SC m_Pi_size 4 0, op_iret],
  [op_aload 0, op_getr SC 11 0, op_invV SC m_Le_length 3 0, op_iret],
  [op_ci (-1), op_iret]]
def t_Su_count : Nat → Nat := fun t => [0, 52, 60, 68, 82, 90, 101, 109, 117, 125, 133].getD t 0
set_option maxRecDepth 100000 in
theorem ok_Su_count : MOK SC m_Su_count c_Su_count t_Su_count := fun t => match t with
  | 0 => ⟨_, so_iload_n (i := 1) (k := 1) (by decide +kernel) rfl,
    ⟨_, so_table (pc' := 0) (lo := 0) (ts := [1, 2, 3, 4, 5, 6, 7, 8, 9]) (d := 10) (hi := 8) (dflt := 132) (offs := #[51, 59, 67, 81, 89, 100, 108, 116, 124]) (len := 51) (by decide +kernel) rfl (by decide +kernel) rfl,
    trivial⟩⟩
  | 1 => ⟨_, so_aload_n (i := 0) (k := 0) (by decide +kernel) rfl,
    ⟨_, so_getr (ci := 11) (k := 2) (index := 26) rfl CF_11 (by decide +kernel) (fun _ _ _ => rfl) tw_567 rfl (by decide +kernel),
    ⟨_, so_invV (mi' := m_Co_places) (ci := 1) (n := 0) (index := 295) rfl rfl tw_788 tw_789 ⟨tw_790, tw_67, ⟨by decide +kernel, by decide +kernel, by decide +kernel⟩, by decide +kernel⟩ tw_1062 (by decide +kernel),
    ⟨_, so_iret (pc' := 0) rfl (by decide +kernel),
    trivial⟩⟩⟩⟩
  | 2 => ⟨_, so_aload_n (i := 0) (k := 0) (by decide +kernel) rfl,
    ⟨_, so_getr (ci := 11) (k := 2) (index := 26) rfl CF_11 (by decide +kernel) (fun _ _ _ => rfl) tw_567 rfl (by decide +kernel),
    ⟨_, so_invV (mi' := m_Co_roads) (ci := 1) (n := 0) (index := 114) rfl rfl tw_617 tw_618 ⟨tw_619, tw_67, ⟨by decide +kernel, by decide +kernel, by decide +kernel⟩, by decide +kernel⟩ tw_616 (by decide +kernel),
    ⟨_, so_iret (pc' := 0) rfl (by decide +kernel),
    trivial⟩⟩⟩⟩
  | 3 => ⟨_, so_aload_n (i := 0) (k := 0) (by decide +kernel) rfl,
    ⟨_, so_getr (ci := 11) (k := 2) (index := 26) rfl CF_11 (by decide +kernel) (fun _ _ _ => rfl) tw_567 rfl (by decide +kernel),
    ⟨_, so_getrN (ci := 1) (k := 0) (index := 131) rfl CF_1 (by decide +kernel) (fun _ _ _ => rfl) tw_173 rfl (by decide +kernel),
    ⟨_, so_getiN (ci := 7) (k := 3) (index := 175) rfl CF_7 (by decide +kernel) (fun _ _ _ => rfl) tw_144 rfl (by decide +kernel),
    ⟨_, so_invS (mi' := m_Jd_bitCount) (n := 1) (index := 178) tw_715 ⟨tw_716, tw_82, ⟨by decide +kernel, by decide +kernel, by decide +kernel⟩, by decide +kernel⟩ tw_714 (by decide +kernel),
    ⟨_, so_iret (pc' := 0) rfl (by decide +kernel),
    trivial⟩⟩⟩⟩⟩⟩
  | 4 => ⟨_, so_aload_n (i := 0) (k := 0) (by decide +kernel) rfl,
    ⟨_, so_getr (ci := 11) (k := 2) (index := 26) rfl CF_11 (by decide +kernel) (fun _ _ _ => rfl) tw_567 rfl (by decide +kernel),
    ⟨_, so_invV (mi' := m_Co_steps) (ci := 1) (n := 0) (index := 190) rfl rfl tw_737 tw_738 ⟨tw_739, tw_67, ⟨by decide +kernel, by decide +kernel, by decide +kernel⟩, by decide +kernel⟩ tw_736 (by decide +kernel),
    ⟨_, so_iret (pc' := 0) rfl (by decide +kernel),
    trivial⟩⟩⟩⟩
  | 5 => ⟨_, so_aload_n (i := 0) (k := 0) (by decide +kernel) rfl,
    ⟨_, so_getr (ci := 11) (k := 2) (index := 26) rfl CF_11 (by decide +kernel) (fun _ _ _ => rfl) tw_567 rfl (by decide +kernel),
    ⟨_, so_getrN (ci := 1) (k := 0) (index := 131) rfl CF_1 (by decide +kernel) (fun _ _ _ => rfl) tw_173 rfl (by decide +kernel),
    ⟨_, so_getiN (ci := 7) (k := 2) (index := 166) rfl CF_7 (by decide +kernel) (fun _ _ _ => rfl) tw_141 rfl (by decide +kernel),
    ⟨_, so_iret (pc' := 0) rfl (by decide +kernel),
    trivial⟩⟩⟩⟩⟩
  | 6 => ⟨_, so_aload_n (i := 0) (k := 0) (by decide +kernel) rfl,
    ⟨_, so_getr (ci := 11) (k := 9) (index := 75) rfl CF_11 (by decide +kernel) (fun _ _ _ => rfl) tw_574 rfl (by decide +kernel),
    ⟨_, so_invV (mi' := m_To_size) (ci := 8) (n := 0) (index := 256) rfl rfl tw_946 tw_947 ⟨tw_948, tw_74, ⟨by decide +kernel, by decide +kernel, by decide +kernel⟩, by decide +kernel⟩ tw_945 (by decide +kernel),
    ⟨_, so_iret (pc' := 0) rfl (by decide +kernel),
    trivial⟩⟩⟩⟩
  | 7 => ⟨_, so_aload_n (i := 0) (k := 0) (by decide +kernel) rfl,
    ⟨_, so_getr (ci := 11) (k := 3) (index := 35) rfl CF_11 (by decide +kernel) (fun _ _ _ => rfl) tw_568 rfl (by decide +kernel),
    ⟨_, so_invV (mi' := m_Pi_size) (ci := 4) (n := 0) (index := 187) rfl rfl tw_729 tw_730 ⟨tw_731, tw_69, ⟨by decide +kernel, by decide +kernel, by decide +kernel⟩, by decide +kernel⟩ tw_728 (by decide +kernel),
    ⟨_, so_iret (pc' := 0) rfl (by decide +kernel),
    trivial⟩⟩⟩⟩
  | 8 => ⟨_, so_aload_n (i := 0) (k := 0) (by decide +kernel) rfl,
    ⟨_, so_getr (ci := 11) (k := 4) (index := 39) rfl CF_11 (by decide +kernel) (fun _ _ _ => rfl) tw_569 rfl (by decide +kernel),
    ⟨_, so_invV (mi' := m_Pi_size) (ci := 4) (n := 0) (index := 187) rfl rfl tw_729 tw_730 ⟨tw_731, tw_69, ⟨by decide +kernel, by decide +kernel, by decide +kernel⟩, by decide +kernel⟩ tw_728 (by decide +kernel),
    ⟨_, so_iret (pc' := 0) rfl (by decide +kernel),
    trivial⟩⟩⟩⟩
  | 9 => ⟨_, so_aload_n (i := 0) (k := 0) (by decide +kernel) rfl,
    ⟨_, so_getr (ci := 11) (k := 0) (index := 10) rfl CF_11 (by decide +kernel) (fun _ _ _ => rfl) tw_565 rfl (by decide +kernel),
    ⟨_, so_invV (mi' := m_Le_length) (ci := 3) (n := 0) (index := 109) rfl rfl tw_477 tw_478 ⟨tw_479, tw_65, ⟨by decide +kernel, by decide +kernel, by decide +kernel⟩, by decide +kernel⟩ tw_476 (by decide +kernel),
    ⟨_, so_iret (pc' := 0) rfl (by decide +kernel),
    trivial⟩⟩⟩⟩
  | 10 => ⟨_, so_iconst (n := (-1)) (by decide +kernel) ⟨by decide, by decide⟩,
    ⟨_, so_iret (pc' := 0) rfl (by decide +kernel),
    trivial⟩⟩
  | _ + 11 => trivial
def c_Su_layLetters : List (List Op) := [
  [op_aload 0, op_getr SC 11 0, op_invV SC m_Le_length 3 0, op_ifeq 1, op_aload 0, op_getr SC 11 1, op_aload 0, op_getr SC 11 0, op_invV SC m_Re_firstFault 5 1, op_ci (-4), op_iceq 2, op_goto 1],
  [op_ci (0), op_zret],
  [op_aload 0, op_getr SC 11 2, op_aload 0, op_getr SC 11 1, op_getr SC 5 0, op_invV SC m_Co_copyFrom 1 1, op_aload 0, op_getr SC 11 9, op_invV SC m_To_clear 8 0, op_aload 0, op_getr SC 11 3, op_invV SC m_Pi_clear 4 0, op_aload 0, op_getr SC 11 4, op_invV SC m_Pi_clear 4 0, op_ci (1), op_zret]]
def t_Su_layLetters : Nat → Nat := fun t => [0, 26, 28].getD t 0
set_option maxRecDepth 100000 in
theorem ok_Su_layLetters : MOK SC m_Su_layLetters c_Su_layLetters t_Su_layLetters := fun t => match t with
  | 0 => ⟨_, so_aload_n (i := 0) (k := 0) (by decide +kernel) rfl,
    ⟨_, so_getr (ci := 11) (k := 0) (index := 10) rfl CF_11 (by decide +kernel) (fun _ _ _ => rfl) tw_565 rfl (by decide +kernel),
    ⟨_, so_invV (mi' := m_Le_length) (ci := 3) (n := 0) (index := 109) rfl rfl tw_477 tw_478 ⟨tw_479, tw_65, ⟨by decide +kernel, by decide +kernel, by decide +kernel⟩, by decide +kernel⟩ tw_476 (by decide +kernel),
    ⟨_, so_ifeq (t := 1) (off := 19) (by decide +kernel) rfl,
    ⟨_, so_aload_n (i := 0) (k := 0) (by decide +kernel) rfl,
    ⟨_, so_getr (ci := 11) (k := 1) (index := 19) rfl CF_11 (by decide +kernel) (fun _ _ _ => rfl) tw_566 rfl (by decide +kernel),
    ⟨_, so_aload_n (i := 0) (k := 0) (by decide +kernel) rfl,
    ⟨_, so_getr (ci := 11) (k := 0) (index := 10) rfl CF_11 (by decide +kernel) (fun _ _ _ => rfl) tw_565 rfl (by decide +kernel),
    ⟨_, so_invV (mi' := m_Re_firstFault) (ci := 5) (n := 1) (index := 110) rfl rfl tw_481 tw_482 ⟨tw_483, tw_66, ⟨by decide +kernel, by decide +kernel, by decide +kernel⟩, by decide +kernel⟩ tw_480 (by decide +kernel),
    ⟨_, so_bipush (n := (-4)) (by decide +kernel) (by decide +kernel) ⟨by decide, by decide⟩,
    ⟨_, so_iceq (t := 2) (off := 5) (by decide +kernel) rfl,
    ⟨_, so_fall (pc' := 0) (t := 1) rfl,
    trivial⟩⟩⟩⟩⟩⟩⟩⟩⟩⟩⟩⟩
  | 1 => ⟨_, so_iconst (n := (0)) (by decide +kernel) ⟨by decide, by decide⟩,
    ⟨_, so_zret (pc' := 0) rfl (by decide +kernel),
    trivial⟩⟩
  | 2 => ⟨_, so_aload_n (i := 0) (k := 0) (by decide +kernel) rfl,
    ⟨_, so_getr (ci := 11) (k := 2) (index := 26) rfl CF_11 (by decide +kernel) (fun _ _ _ => rfl) tw_567 rfl (by decide +kernel),
    ⟨_, so_aload_n (i := 0) (k := 0) (by decide +kernel) rfl,
    ⟨_, so_getr (ci := 11) (k := 1) (index := 19) rfl CF_11 (by decide +kernel) (fun _ _ _ => rfl) tw_566 rfl (by decide +kernel),
    ⟨_, so_getrN (ci := 5) (k := 0) (index := 298) rfl CF_5 (by decide +kernel) (fun _ _ _ => rfl) tw_200 rfl (by decide +kernel),
    ⟨_, so_invV (mi' := m_Co_copyFrom) (ci := 1) (n := 1) (index := 299) rfl rfl tw_542 tw_543 ⟨tw_544, tw_67, ⟨by decide +kernel, by decide +kernel, by decide +kernel⟩, by decide +kernel⟩ tw_541 (by decide +kernel),
    ⟨_, so_aload_n (i := 0) (k := 0) (by decide +kernel) rfl,
    ⟨_, so_getr (ci := 11) (k := 9) (index := 75) rfl CF_11 (by decide +kernel) (fun _ _ _ => rfl) tw_574 rfl (by decide +kernel),
    ⟨_, so_invV (mi' := m_To_clear) (ci := 8) (n := 0) (index := 257) rfl rfl tw_554 tw_555 ⟨tw_556, tw_74, ⟨by decide +kernel, by decide +kernel, by decide +kernel⟩, by decide +kernel⟩ tw_553 (by decide +kernel),
    ⟨_, so_aload_n (i := 0) (k := 0) (by decide +kernel) rfl,
    ⟨_, so_getr (ci := 11) (k := 3) (index := 35) rfl CF_11 (by decide +kernel) (fun _ _ _ => rfl) tw_568 rfl (by decide +kernel),
    ⟨_, so_invV (mi' := m_Pi_clear) (ci := 4) (n := 0) (index := 294) rfl rfl tw_558 tw_559 ⟨tw_560, tw_69, ⟨by decide +kernel, by decide +kernel, by decide +kernel⟩, by decide +kernel⟩ tw_557 (by decide +kernel),
    ⟨_, so_aload_n (i := 0) (k := 0) (by decide +kernel) rfl,
    ⟨_, so_getr (ci := 11) (k := 4) (index := 39) rfl CF_11 (by decide +kernel) (fun _ _ _ => rfl) tw_569 rfl (by decide +kernel),
    ⟨_, so_invV (mi' := m_Pi_clear) (ci := 4) (n := 0) (index := 294) rfl rfl tw_558 tw_559 ⟨tw_560, tw_69, ⟨by decide +kernel, by decide +kernel, by decide +kernel⟩, by decide +kernel⟩ tw_557 (by decide +kernel),
    ⟨_, so_iconst (n := (1)) (by decide +kernel) ⟨by decide, by decide⟩,
    ⟨_, so_zret (pc' := 0) rfl (by decide +kernel),
    trivial⟩⟩⟩⟩⟩⟩⟩⟩⟩⟩⟩⟩⟩⟩⟩⟩⟩
  | _ + 3 => trivial
def c_Su_isEither : List (List Op) := [
  [op_iload 0, op_ifeq 1, op_iload 0, op_ci (1), op_icne 2, op_goto 1],
  [op_ci (1), op_goto 3],
  [op_ci (0), op_goto 3],
  [op_zret]]
def t_Su_isEither : Nat → Nat := fun t => [0, 9, 13, 14].getD t 0
set_option maxRecDepth 100000 in
theorem ok_Su_isEither : MOK SC m_Su_isEither c_Su_isEither t_Su_isEither := fun t => match t with
  | 0 => ⟨_, so_iload_n (i := 0) (k := 0) (by decide +kernel) rfl,
    ⟨_, so_ifeq (t := 1) (off := 8) (by decide +kernel) rfl,
    ⟨_, so_iload_n (i := 0) (k := 0) (by decide +kernel) rfl,
    ⟨_, so_iconst (n := (1)) (by decide +kernel) ⟨by decide, by decide⟩,
    ⟨_, so_icne (t := 2) (off := 7) (by decide +kernel) rfl,
    ⟨_, so_fall (pc' := 0) (t := 1) rfl,
    trivial⟩⟩⟩⟩⟩⟩
  | 1 => ⟨_, so_iconst (n := (1)) (by decide +kernel) ⟨by decide, by decide⟩,
    ⟨_, so_goto (pc' := 0) (t := 3) (off := 4) (by decide +kernel) rfl,
    trivial⟩⟩
  | 2 => ⟨_, so_iconst (n := (0)) (by decide +kernel) ⟨by decide, by decide⟩,
    ⟨_, so_fall (pc' := 0) (t := 3) rfl,
    trivial⟩⟩
  | 3 => ⟨_, so_zret (pc' := 0) rfl (by decide +kernel),
    trivial⟩
  | _ + 4 => trivial
def c_Su_isFigure : List (List Op) := [
  [op_iload 0, op_iflt 1, op_iload 0, op_ci (40), op_icgt 1, op_ci (1), op_goto 2],
  [op_ci (0), op_goto 2],
  [op_zret]]
def t_Su_isFigure : Nat → Nat := fun t => [0, 14, 15].getD t 0
set_option maxRecDepth 100000 in
theorem ok_Su_isFigure : MOK SC m_Su_isFigure c_Su_isFigure t_Su_isFigure := fun t => match t with
  | 0 => ⟨_, so_iload_n (i := 0) (k := 0) (by decide +kernel) rfl,
    ⟨_, so_iflt (t := 1) (off := 13) (by decide +kernel) rfl,
    ⟨_, so_iload_n (i := 0) (k := 0) (by decide +kernel) rfl,
    ⟨_, so_bipush (n := (40)) (by decide +kernel) (by decide +kernel) ⟨by decide, by decide⟩,
    ⟨_, so_icgt (t := 1) (off := 7) (by decide +kernel) rfl,
    ⟨_, so_iconst (n := (1)) (by decide +kernel) ⟨by decide, by decide⟩,
    ⟨_, so_goto (pc' := 0) (t := 2) (off := 4) (by decide +kernel) rfl,
    trivial⟩⟩⟩⟩⟩⟩⟩
  | 1 => ⟨_, so_iconst (n := (0)) (by decide +kernel) ⟨by decide, by decide⟩,
    ⟨_, so_fall (pc' := 0) (t := 2) rfl,
    trivial⟩⟩
  | 2 => ⟨_, so_zret (pc' := 0) rfl (by decide +kernel),
    trivial⟩
  | _ + 3 => trivial
def c_Su_isSum : List (List Op) := [
  [op_iload 0, op_iflt 1, op_iload 0, op_ci (999), op_icgt 1, op_ci (1), op_goto 2],
  [op_ci (0), op_goto 2],
  [op_zret]]
def t_Su_isSum : Nat → Nat := fun t => [0, 15, 16].getD t 0
set_option maxRecDepth 100000 in
theorem ok_Su_isSum : MOK SC m_Su_isSum c_Su_isSum t_Su_isSum := fun t => match t with
  | 0 => ⟨_, so_iload_n (i := 0) (k := 0) (by decide +kernel) rfl,
    ⟨_, so_iflt (t := 1) (off := 14) (by decide +kernel) rfl,
    ⟨_, so_iload_n (i := 0) (k := 0) (by decide +kernel) rfl,
    ⟨_, so_sipush (n := (999)) (by decide +kernel) (by decide +kernel) ⟨by decide, by decide⟩,
    ⟨_, so_icgt (t := 1) (off := 7) (by decide +kernel) rfl,
    ⟨_, so_iconst (n := (1)) (by decide +kernel) ⟨by decide, by decide⟩,
    ⟨_, so_goto (pc' := 0) (t := 2) (off := 4) (by decide +kernel) rfl,
    trivial⟩⟩⟩⟩⟩⟩⟩
  | 1 => ⟨_, so_iconst (n := (0)) (by decide +kernel) ⟨by decide, by decide⟩,
    ⟨_, so_fall (pc' := 0) (t := 2) rfl,
    trivial⟩⟩
  | 2 => ⟨_, so_zret (pc' := 0) rfl (by decide +kernel),
    trivial⟩
  | _ + 3 => trivial
def c_Cl_init : List (List Op) := [
  [op_aload 0, op_oinit, op_aload 0, op_ci (5), op_newa SC .int, op_putr SC 0 1, op_aload 0, op_ci (6), op_newa SC .int, op_putr SC 0 2, op_aload 0, op_ci (6), op_newa SC .int, op_putr SC 0 3, op_aload 0, op_aload 1, op_putr SC 0 0, op_ret]]
def t_Cl_init : Nat → Nat := fun t => [0].getD t 0
set_option maxRecDepth 100000 in
theorem ok_Cl_init : MOK SC m_Cl_init c_Cl_init t_Cl_init := fun t => match t with
  | 0 => ⟨_, so_aload_n (i := 0) (k := 0) (by decide +kernel) rfl,
    ⟨_, so_oinit (index := 3) tw_262 tw_91 tw_92 (by decide +kernel) (by decide +kernel),
    ⟨_, so_aload_n (i := 0) (k := 0) (by decide +kernel) rfl,
    ⟨_, so_iconst (n := (5)) (by decide +kernel) ⟨by decide, by decide⟩,
    ⟨_, so_newa (atype := .int) (ty := .int) rfl (by decide) tw_166 (by decide +kernel),
    ⟨_, so_putrF (ci := 0) (k := 1) (index := 9) rfl CF_0 (by decide +kernel) (Or.inr ⟨_, rfl⟩) tw_264 rfl rfl rfl rfl (by decide +kernel),
    ⟨_, so_aload_n (i := 0) (k := 0) (by decide +kernel) rfl,
    ⟨_, so_bipush (n := (6)) (by decide +kernel) (by decide +kernel) ⟨by decide, by decide⟩,
    ⟨_, so_newa (atype := .int) (ty := .int) rfl (by decide) tw_166 (by decide +kernel),
    ⟨_, so_putr (ci := 0) (k := 2) (index := 15) rfl CF_0 (by decide +kernel) (Or.inr ⟨_, rfl⟩) tw_266 rfl rfl (by decide +kernel),
    ⟨_, so_aload_n (i := 0) (k := 0) (by decide +kernel) rfl,
    ⟨_, so_bipush (n := (6)) (by decide +kernel) (by decide +kernel) ⟨by decide, by decide⟩,
    ⟨_, so_newa (atype := .int) (ty := .int) rfl (by decide) tw_166 (by decide +kernel),
    ⟨_, so_putr (ci := 0) (k := 3) (index := 18) rfl CF_0 (by decide +kernel) (Or.inr ⟨_, rfl⟩) tw_267 rfl rfl (by decide +kernel),
    ⟨_, so_aload_n (i := 0) (k := 0) (by decide +kernel) rfl,
    ⟨_, so_aload_n (i := 1) (k := 1) (by decide +kernel) rfl,
    ⟨_, so_putrF (ci := 0) (k := 0) (index := 21) rfl CF_0 (by decide +kernel) (Or.inl ⟨_, rfl⟩) tw_263 rfl rfl rfl rfl (by decide +kernel),
    ⟨_, so_ret (pc' := 0) rfl (by decide +kernel),
    trivial⟩⟩⟩⟩⟩⟩⟩⟩⟩⟩⟩⟩⟩⟩⟩⟩⟩⟩
  | _ + 1 => trivial
def c_Cl_findMost : List (List Op) := [
  [op_aload 0, op_aload 0, op_getr SC 0 0, op_getr SC 1 0, op_geti SC 7 0, op_aload 0, op_getr SC 0 0, op_getr SC 1 0, op_geti SC 7 1, op_invV SC m_Cl_begin 0 2, op_aload 0, op_aload 0, op_getr SC 0 0, op_getr SC 1 0, op_geti SC 7 1, op_puti SC 0 4, op_aload 0, op_ci (0), op_puti SC 0 5, op_ci (1), op_istore 2, op_goto 1],
  [op_iload 2, op_iload 1, op_icgt 4, op_aload 0, op_invV SC m_Cl_advance 0 0, op_ci (0), op_istore 3, op_goto 2],
  [op_iload 3, op_aload 0, op_getr SC 0 0, op_invV SC m_Co_places 1 0, op_icge 3, op_aload 0, op_iload 2, op_aload 0, op_getr SC 0 2, op_iload 3, op_iald SC, op_invV SC m_Cl_raise 0 2, op_iinc 3 (1), op_goto 2],
  [op_iinc 2 (1), op_goto 1],
  [op_ret]]
def t_Cl_findMost : Nat → Nat := fun t => [0, 45, 56, 84, 90].getD t 0
set_option maxRecDepth 100000 in
theorem ok_Cl_findMost : MOK SC m_Cl_findMost c_Cl_findMost t_Cl_findMost := fun t => match t with
  | 0 => ⟨_, so_aload_n (i := 0) (k := 0) (by decide +kernel) rfl,
    ⟨_, so_aload_n (i := 0) (k := 0) (by decide +kernel) rfl,
    ⟨_, so_getr (ci := 0) (k := 0) (index := 21) rfl CF_0 (by decide +kernel) (fun _ _ _ => rfl) tw_263 rfl (by decide +kernel),
    ⟨_, so_getrN (ci := 1) (k := 0) (index := 25) rfl CF_1 (by decide +kernel) (fun _ _ _ => rfl) tw_169 rfl (by decide +kernel),
    ⟨_, so_getiN (ci := 7) (k := 0) (index := 31) rfl CF_7 (by decide +kernel) (fun _ _ _ => rfl) tw_126 rfl (by decide +kernel),
    ⟨_, so_aload_n (i := 0) (k := 0) (by decide +kernel) rfl,
    ⟨_, so_getr (ci := 0) (k := 0) (index := 21) rfl CF_0 (by decide +kernel) (fun _ _ _ => rfl) tw_263 rfl (by decide +kernel),
    ⟨_, so_getrN (ci := 1) (k := 0) (index := 25) rfl CF_1 (by decide +kernel) (fun _ _ _ => rfl) tw_169 rfl (by decide +kernel),
    ⟨_, so_getiN (ci := 7) (k := 1) (index := 37) rfl CF_7 (by decide +kernel) (fun _ _ _ => rfl) tw_132 rfl (by decide +kernel),
    ⟨_, so_invV (mi' := m_Cl_begin) (ci := 0) (n := 2) (index := 40) rfl rfl tw_764 tw_8 ⟨tw_765, tw_71, ⟨by decide +kernel, by decide +kernel, by decide +kernel⟩, by decide +kernel⟩ tw_762 (by decide +kernel),
    ⟨_, so_aload_n (i := 0) (k := 0) (by decide +kernel) rfl,
    ⟨_, so_aload_n (i := 0) (k := 0) (by decide +kernel) rfl,
    ⟨_, so_getr (ci := 0) (k := 0) (index := 21) rfl CF_0 (by decide +kernel) (fun _ _ _ => rfl) tw_263 rfl (by decide +kernel),
    ⟨_, so_getrN (ci := 1) (k := 0) (index := 25) rfl CF_1 (by decide +kernel) (fun _ _ _ => rfl) tw_169 rfl (by decide +kernel),
    ⟨_, so_getiN (ci := 7) (k := 1) (index := 37) rfl CF_7 (by decide +kernel) (fun _ _ _ => rfl) tw_132 rfl (by decide +kernel),
    ⟨_, so_puti (ci := 0) (k := 4) (index := 44) rfl CF_0 (by decide +kernel) rfl tw_268 rfl rfl (by decide +kernel),
    ⟨_, so_aload_n (i := 0) (k := 0) (by decide +kernel) rfl,
    ⟨_, so_iconst (n := (0)) (by decide +kernel) ⟨by decide, by decide⟩,
    ⟨_, so_puti (ci := 0) (k := 5) (index := 47) rfl CF_0 (by decide +kernel) rfl tw_270 rfl rfl (by decide +kernel),
    ⟨_, so_iconst (n := (1)) (by decide +kernel) ⟨by decide, by decide⟩,
    ⟨_, so_istore_n (i := 2) (k := 2) (by decide +kernel) rfl (by decide +kernel),
    ⟨_, so_fall (pc' := 0) (t := 1) rfl,
    trivial⟩⟩⟩⟩⟩⟩⟩⟩⟩⟩⟩⟩⟩⟩⟩⟩⟩⟩⟩⟩⟩⟩
  | 1 => ⟨_, so_iload_n (i := 2) (k := 2) (by decide +kernel) rfl,
    ⟨_, so_iload_n (i := 1) (k := 1) (by decide +kernel) rfl,
    ⟨_, so_icgt (t := 4) (off := 43) (by decide +kernel) rfl,
    ⟨_, so_aload_n (i := 0) (k := 0) (by decide +kernel) rfl,
    ⟨_, so_invV (mi' := m_Cl_advance) (ci := 0) (n := 0) (index := 50) rfl rfl tw_772 tw_9 ⟨tw_773, tw_71, ⟨by decide +kernel, by decide +kernel, by decide +kernel⟩, by decide +kernel⟩ tw_770 (by decide +kernel),
    ⟨_, so_iconst (n := (0)) (by decide +kernel) ⟨by decide, by decide⟩,
    ⟨_, so_istore_n (i := 3) (k := 3) (by decide +kernel) rfl (by decide +kernel),
    ⟨_, so_fall (pc' := 0) (t := 2) rfl,
    trivial⟩⟩⟩⟩⟩⟩⟩⟩
  | 2 => ⟨_, so_iload_n (i := 3) (k := 3) (by decide +kernel) rfl,
    ⟨_, so_aload_n (i := 0) (k := 0) (by decide +kernel) rfl,
    ⟨_, so_getr (ci := 0) (k := 0) (index := 21) rfl CF_0 (by decide +kernel) (fun _ _ _ => rfl) tw_263 rfl (by decide +kernel),
    ⟨_, so_invV (mi' := m_Co_places) (ci := 1) (n := 0) (index := 53) rfl rfl tw_788 tw_789 ⟨tw_790, tw_67, ⟨by decide +kernel, by decide +kernel, by decide +kernel⟩, by decide +kernel⟩ tw_787 (by decide +kernel),
    ⟨_, so_icge (t := 3) (off := 20) (by decide +kernel) rfl,
    ⟨_, so_aload_n (i := 0) (k := 0) (by decide +kernel) rfl,
    ⟨_, so_iload_n (i := 2) (k := 2) (by decide +kernel) rfl,
    ⟨_, so_aload_n (i := 0) (k := 0) (by decide +kernel) rfl,
    ⟨_, so_getr (ci := 0) (k := 2) (index := 15) rfl CF_0 (by decide +kernel) (fun _ _ _ => rfl) tw_266 rfl (by decide +kernel),
    ⟨_, so_iload_n (i := 3) (k := 3) (by decide +kernel) rfl,
    ⟨_, so_iald rfl (by decide +kernel),
    ⟨_, so_invV (mi' := m_Cl_raise) (ci := 0) (n := 2) (index := 57) rfl rfl tw_793 tw_11 ⟨tw_794, tw_71, ⟨by decide +kernel, by decide +kernel, by decide +kernel⟩, by decide +kernel⟩ tw_791 (by decide +kernel),
    ⟨_, so_iinc (i := 3) (n := 1) (by decide +kernel) (by decide +kernel),
    ⟨_, so_goto (pc' := 0) (t := 2) (off := -25) (by decide +kernel) rfl,
    trivial⟩⟩⟩⟩⟩⟩⟩⟩⟩⟩⟩⟩⟩⟩
  | 3 => ⟨_, so_iinc (i := 2) (n := 1) (by decide +kernel) (by decide +kernel),
    ⟨_, so_goto (pc' := 0) (t := 1) (off := -42) (by decide +kernel) rfl,
    trivial⟩⟩
  | 4 => ⟨_, so_ret (pc' := 0) rfl (by decide +kernel),
    trivial⟩
  | _ + 5 => trivial
def c_Cl_findRound : List (List Op) := [
  [op_aload 0, op_aload 0, op_getr SC 0 0, op_getr SC 1 0, op_geti SC 7 0, op_aload 0, op_getr SC 0 0, op_getr SC 1 0, op_geti SC 7 1, op_invV SC m_Cl_begin 0 2, op_aload 0, op_aload 0, op_getr SC 0 0, op_getr SC 1 0, op_geti SC 7 1, op_puti SC 0 4, op_aload 0, op_ci (0), op_puti SC 0 5, op_ci (1), op_istore 1, op_goto 1],
  [op_iload 1, op_ci (5), op_icgt 2, op_aload 0, op_invV SC m_Cl_advance 0 0, op_aload 0, op_iload 1, op_aload 0, op_invV SC m_Cl_bestAtHome 0 0, op_invV SC m_Cl_raise 0 2, op_iinc 1 (1), op_goto 1],
  [op_ret]]
def t_Cl_findRound : Nat → Nat := fun t => [0, 45, 69].getD t 0
set_option maxRecDepth 100000 in
theorem ok_Cl_findRound : MOK SC m_Cl_findRound c_Cl_findRound t_Cl_findRound := fun t => match t with
  | 0 => ⟨_, so_aload_n (i := 0) (k := 0) (by decide +kernel) rfl,
    ⟨_, so_aload_n (i := 0) (k := 0) (by decide +kernel) rfl,
    ⟨_, so_getr (ci := 0) (k := 0) (index := 21) rfl CF_0 (by decide +kernel) (fun _ _ _ => rfl) tw_263 rfl (by decide +kernel),
    ⟨_, so_getrN (ci := 1) (k := 0) (index := 25) rfl CF_1 (by decide +kernel) (fun _ _ _ => rfl) tw_169 rfl (by decide +kernel),
    ⟨_, so_getiN (ci := 7) (k := 0) (index := 31) rfl CF_7 (by decide +kernel) (fun _ _ _ => rfl) tw_126 rfl (by decide +kernel),
    ⟨_, so_aload_n (i := 0) (k := 0) (by decide +kernel) rfl,
    ⟨_, so_getr (ci := 0) (k := 0) (index := 21) rfl CF_0 (by decide +kernel) (fun _ _ _ => rfl) tw_263 rfl (by decide +kernel),
    ⟨_, so_getrN (ci := 1) (k := 0) (index := 25) rfl CF_1 (by decide +kernel) (fun _ _ _ => rfl) tw_169 rfl (by decide +kernel),
    ⟨_, so_getiN (ci := 7) (k := 1) (index := 37) rfl CF_7 (by decide +kernel) (fun _ _ _ => rfl) tw_132 rfl (by decide +kernel),
    ⟨_, so_invV (mi' := m_Cl_begin) (ci := 0) (n := 2) (index := 40) rfl rfl tw_764 tw_8 ⟨tw_765, tw_71, ⟨by decide +kernel, by decide +kernel, by decide +kernel⟩, by decide +kernel⟩ tw_762 (by decide +kernel),
    ⟨_, so_aload_n (i := 0) (k := 0) (by decide +kernel) rfl,
    ⟨_, so_aload_n (i := 0) (k := 0) (by decide +kernel) rfl,
    ⟨_, so_getr (ci := 0) (k := 0) (index := 21) rfl CF_0 (by decide +kernel) (fun _ _ _ => rfl) tw_263 rfl (by decide +kernel),
    ⟨_, so_getrN (ci := 1) (k := 0) (index := 25) rfl CF_1 (by decide +kernel) (fun _ _ _ => rfl) tw_169 rfl (by decide +kernel),
    ⟨_, so_getiN (ci := 7) (k := 1) (index := 37) rfl CF_7 (by decide +kernel) (fun _ _ _ => rfl) tw_132 rfl (by decide +kernel),
    ⟨_, so_puti (ci := 0) (k := 4) (index := 44) rfl CF_0 (by decide +kernel) rfl tw_268 rfl rfl (by decide +kernel),
    ⟨_, so_aload_n (i := 0) (k := 0) (by decide +kernel) rfl,
    ⟨_, so_iconst (n := (0)) (by decide +kernel) ⟨by decide, by decide⟩,
    ⟨_, so_puti (ci := 0) (k := 5) (index := 47) rfl CF_0 (by decide +kernel) rfl tw_270 rfl rfl (by decide +kernel),
    ⟨_, so_iconst (n := (1)) (by decide +kernel) ⟨by decide, by decide⟩,
    ⟨_, so_istore_n (i := 1) (k := 1) (by decide +kernel) rfl (by decide +kernel),
    ⟨_, so_fall (pc' := 0) (t := 1) rfl,
    trivial⟩⟩⟩⟩⟩⟩⟩⟩⟩⟩⟩⟩⟩⟩⟩⟩⟩⟩⟩⟩⟩⟩
  | 1 => ⟨_, so_iload_n (i := 1) (k := 1) (by decide +kernel) rfl,
    ⟨_, so_iconst (n := (5)) (by decide +kernel) ⟨by decide, by decide⟩,
    ⟨_, so_icgt (t := 2) (off := 22) (by decide +kernel) rfl,
    ⟨_, so_aload_n (i := 0) (k := 0) (by decide +kernel) rfl,
    ⟨_, so_invV (mi' := m_Cl_advance) (ci := 0) (n := 0) (index := 50) rfl rfl tw_772 tw_9 ⟨tw_773, tw_71, ⟨by decide +kernel, by decide +kernel, by decide +kernel⟩, by decide +kernel⟩ tw_770 (by decide +kernel),
    ⟨_, so_aload_n (i := 0) (k := 0) (by decide +kernel) rfl,
    ⟨_, so_iload_n (i := 1) (k := 1) (by decide +kernel) rfl,
    ⟨_, so_aload_n (i := 0) (k := 0) (by decide +kernel) rfl,
    ⟨_, so_invV (mi' := m_Cl_bestAtHome) (ci := 0) (n := 0) (index := 60) rfl rfl tw_805 tw_12 ⟨tw_806, tw_71, ⟨by decide +kernel, by decide +kernel, by decide +kernel⟩, by decide +kernel⟩ tw_803 (by decide +kernel),
    ⟨_, so_invV (mi' := m_Cl_raise) (ci := 0) (n := 2) (index := 57) rfl rfl tw_793 tw_11 ⟨tw_794, tw_71, ⟨by decide +kernel, by decide +kernel, by decide +kernel⟩, by decide +kernel⟩ tw_791 (by decide +kernel),
    ⟨_, so_iinc (i := 1) (n := 1) (by decide +kernel) (by decide +kernel),
    ⟨_, so_goto (pc' := 0) (t := 1) (off := -21) (by decide +kernel) rfl,
    trivial⟩⟩⟩⟩⟩⟩⟩⟩⟩⟩⟩⟩
  | 2 => ⟨_, so_ret (pc' := 0) rfl (by decide +kernel),
    trivial⟩
  | _ + 3 => trivial
def c_Cl_gain : List (List Op) := [
  [op_aload 0, op_geti SC 0 4, op_aload 0, op_getr SC 0 0, op_getr SC 1 0, op_geti SC 7 1, op_isub, op_iret]]
def t_Cl_gain : Nat → Nat := fun t => [0].getD t 0
set_option maxRecDepth 100000 in
theorem ok_Cl_gain : MOK SC m_Cl_gain c_Cl_gain t_Cl_gain := fun t => match t with
  | 0 => ⟨_, so_aload_n (i := 0) (k := 0) (by decide +kernel) rfl,
    ⟨_, so_geti (ci := 0) (k := 4) (index := 44) rfl CF_0 (by decide +kernel) (fun _ _ _ => rfl) tw_268 rfl (by decide +kernel),
    ⟨_, so_aload_n (i := 0) (k := 0) (by decide +kernel) rfl,
    ⟨_, so_getr (ci := 0) (k := 0) (index := 21) rfl CF_0 (by decide +kernel) (fun _ _ _ => rfl) tw_263 rfl (by decide +kernel),
    ⟨_, so_getrN (ci := 1) (k := 0) (index := 25) rfl CF_1 (by decide +kernel) (fun _ _ _ => rfl) tw_169 rfl (by decide +kernel),
    ⟨_, so_getiN (ci := 7) (k := 1) (index := 37) rfl CF_7 (by decide +kernel) (fun _ _ _ => rfl) tw_132 rfl (by decide +kernel),
    ⟨_, so_isub (by decide +kernel),
    ⟨_, so_iret (pc' := 0) rfl (by decide +kernel),
    trivial⟩⟩⟩⟩⟩⟩⟩⟩
  | _ + 1 => trivial
def c_Cl_raise : List (List Op) := [
  [op_iload 2, op_aload 0, op_geti SC 0 4, op_icle 1, op_aload 0, op_iload 2, op_puti SC 0 4, op_aload 0, op_iload 1, op_puti SC 0 5, op_goto 1],
  [op_ret]]
def t_Cl_raise : Nat → Nat := fun t => [0, 18].getD t 0
set_option maxRecDepth 100000 in
theorem ok_Cl_raise : MOK SC m_Cl_raise c_Cl_raise t_Cl_raise := fun t => match t with
  | 0 => ⟨_, so_iload_n (i := 2) (k := 2) (by decide +kernel) rfl,
    ⟨_, so_aload_n (i := 0) (k := 0) (by decide +kernel) rfl,
    ⟨_, so_geti (ci := 0) (k := 4) (index := 44) rfl CF_0 (by decide +kernel) (fun _ _ _ => rfl) tw_268 rfl (by decide +kernel),
    ⟨_, so_icle (t := 1) (off := 13) (by decide +kernel) rfl,
    ⟨_, so_aload_n (i := 0) (k := 0) (by decide +kernel) rfl,
    ⟨_, so_iload_n (i := 2) (k := 2) (by decide +kernel) rfl,
    ⟨_, so_puti (ci := 0) (k := 4) (index := 44) rfl CF_0 (by decide +kernel) rfl tw_268 rfl rfl (by decide +kernel),
    ⟨_, so_aload_n (i := 0) (k := 0) (by decide +kernel) rfl,
    ⟨_, so_iload_n (i := 1) (k := 1) (by decide +kernel) rfl,
    ⟨_, so_puti (ci := 0) (k := 5) (index := 47) rfl CF_0 (by decide +kernel) rfl tw_270 rfl rfl (by decide +kernel),
    ⟨_, so_fall (pc' := 0) (t := 1) rfl,
    trivial⟩⟩⟩⟩⟩⟩⟩⟩⟩⟩⟩
  | 1 => ⟨_, so_ret (pc' := 0) rfl (by decide +kernel),
    trivial⟩
  | _ + 2 => trivial
def c_Cl_fillRow : List (List Op) := [
  [op_aload 0, op_getr SC 0 0, op_getr SC 1 0, op_geti SC 7 0, op_istore 1, op_aload 0, op_getr SC 0 0, op_getr SC 1 0, op_geti SC 7 1, op_istore 2, op_ci (0), op_istore 3, op_goto 1],
  [op_iload 3, op_aload 0, op_geti SC 0 5, op_icge 3, op_iload 3, op_aload 0, op_getr SC 0 1, op_alen SC, op_icge 3, op_aload 0, op_iload 1, op_iload 2, op_aload 0, op_geti SC 0 5, op_ci (1), op_isub, op_iload 3, op_isub, op_invV SC m_Cl_firstToHighest 0 3, op_istore 4, op_iload 4, op_ifge 2, op_ret],
  [op_aload 0, op_getr SC 0 1, op_iload 3, op_iload 4, op_iast SC, op_aload 0, op_getr SC 0 0, op_iload 4, op_iload 1, op_iload 2, op_invV SC m_Co_sumBehind 1 3, op_istore 2, op_aload 0, op_getr SC 0 0, op_iload 4, op_iload 1, op_invV SC m_Co_otherEnd 1 2, op_istore 1, op_iinc 3 (1), op_goto 1],
  [op_ret]]
def t_Cl_fillRow : Nat → Nat := fun t => [0, 24, 63, 100].getD t 0
set_option maxRecDepth 100000 in
theorem ok_Cl_fillRow : MOK SC m_Cl_fillRow c_Cl_fillRow t_Cl_fillRow := fun t => match t with
  | 0 => ⟨_, so_aload_n (i := 0) (k := 0) (by decide +kernel) rfl,
    ⟨_, so_getr (ci := 0) (k := 0) (index := 21) rfl CF_0 (by decide +kernel) (fun _ _ _ => rfl) tw_263 rfl (by decide +kernel),
    ⟨_, so_getrN (ci := 1) (k := 0) (index := 25) rfl CF_1 (by decide +kernel) (fun _ _ _ => rfl) tw_169 rfl (by decide +kernel),
    ⟨_, so_getiN (ci := 7) (k := 0) (index := 31) rfl CF_7 (by decide +kernel) (fun _ _ _ => rfl) tw_126 rfl (by decide +kernel),
    ⟨_, so_istore_n (i := 1) (k := 1) (by decide +kernel) rfl (by decide +kernel),
    ⟨_, so_aload_n (i := 0) (k := 0) (by decide +kernel) rfl,
    ⟨_, so_getr (ci := 0) (k := 0) (index := 21) rfl CF_0 (by decide +kernel) (fun _ _ _ => rfl) tw_263 rfl (by decide +kernel),
    ⟨_, so_getrN (ci := 1) (k := 0) (index := 25) rfl CF_1 (by decide +kernel) (fun _ _ _ => rfl) tw_169 rfl (by decide +kernel),
    ⟨_, so_getiN (ci := 7) (k := 1) (index := 37) rfl CF_7 (by decide +kernel) (fun _ _ _ => rfl) tw_132 rfl (by decide +kernel),
    ⟨_, so_istore_n (i := 2) (k := 2) (by decide +kernel) rfl (by decide +kernel),
    ⟨_, so_iconst (n := (0)) (by decide +kernel) ⟨by decide, by decide⟩,
    ⟨_, so_istore_n (i := 3) (k := 3) (by decide +kernel) rfl (by decide +kernel),
    ⟨_, so_fall (pc' := 0) (t := 1) rfl,
    trivial⟩⟩⟩⟩⟩⟩⟩⟩⟩⟩⟩⟩⟩
  | 1 => ⟨_, so_iload_n (i := 3) (k := 3) (by decide +kernel) rfl,
    ⟨_, so_aload_n (i := 0) (k := 0) (by decide +kernel) rfl,
    ⟨_, so_geti (ci := 0) (k := 5) (index := 47) rfl CF_0 (by decide +kernel) (fun _ _ _ => rfl) tw_270 rfl (by decide +kernel),
    ⟨_, so_icge (t := 3) (off := 71) (by decide +kernel) rfl,
    ⟨_, so_iload_n (i := 3) (k := 3) (by decide +kernel) rfl,
    ⟨_, so_aload_n (i := 0) (k := 0) (by decide +kernel) rfl,
    ⟨_, so_getr (ci := 0) (k := 1) (index := 9) rfl CF_0 (by decide +kernel) (fun _ _ _ => rfl) tw_264 rfl (by decide +kernel),
    ⟨_, so_alen rfl (by decide +kernel),
    ⟨_, so_icge (t := 3) (off := 62) (by decide +kernel) rfl,
    ⟨_, so_aload_n (i := 0) (k := 0) (by decide +kernel) rfl,
    ⟨_, so_iload_n (i := 1) (k := 1) (by decide +kernel) rfl,
    ⟨_, so_iload_n (i := 2) (k := 2) (by decide +kernel) rfl,
    ⟨_, so_aload_n (i := 0) (k := 0) (by decide +kernel) rfl,
    ⟨_, so_geti (ci := 0) (k := 5) (index := 47) rfl CF_0 (by decide +kernel) (fun _ _ _ => rfl) tw_270 rfl (by decide +kernel),
    ⟨_, so_iconst (n := (1)) (by decide +kernel) ⟨by decide, by decide⟩,
    ⟨_, so_isub (by decide +kernel),
    ⟨_, so_iload_n (i := 3) (k := 3) (by decide +kernel) rfl,
    ⟨_, so_isub (by decide +kernel),
    ⟨_, so_invV (mi' := m_Cl_firstToHighest) (ci := 0) (n := 3) (index := 63) rfl rfl tw_817 tw_13 ⟨tw_818, tw_71, ⟨by decide +kernel, by decide +kernel, by decide +kernel⟩, by decide +kernel⟩ tw_815 (by decide +kernel),
    ⟨_, so_istore (i := 4) (by decide +kernel) (by decide +kernel),
    ⟨_, so_iload (i := 4) (by decide +kernel),
    ⟨_, so_ifge (t := 2) (off := 4) (by decide +kernel) rfl,
    ⟨_, so_ret (pc' := 0) rfl (by decide +kernel),
    trivial⟩⟩⟩⟩⟩⟩⟩⟩⟩⟩⟩⟩⟩⟩⟩⟩⟩⟩⟩⟩⟩⟩⟩
  | 2 => ⟨_, so_aload_n (i := 0) (k := 0) (by decide +kernel) rfl,
    ⟨_, so_getr (ci := 0) (k := 1) (index := 9) rfl CF_0 (by decide +kernel) (fun _ _ _ => rfl) tw_264 rfl (by decide +kernel),
    ⟨_, so_iload_n (i := 3) (k := 3) (by decide +kernel) rfl,
    ⟨_, so_iload (i := 4) (by decide +kernel),
    ⟨_, so_iast rfl (by decide +kernel),
    ⟨_, so_aload_n (i := 0) (k := 0) (by decide +kernel) rfl,
    ⟨_, so_getr (ci := 0) (k := 0) (index := 21) rfl CF_0 (by decide +kernel) (fun _ _ _ => rfl) tw_263 rfl (by decide +kernel),
    ⟨_, so_iload (i := 4) (by decide +kernel),
    ⟨_, so_iload_n (i := 1) (k := 1) (by decide +kernel) rfl,
    ⟨_, so_iload_n (i := 2) (k := 2) (by decide +kernel) rfl,
    ⟨_, so_invV (mi' := m_Co_sumBehind) (ci := 1) (n := 3) (index := 67) rfl rfl tw_675 tw_676 ⟨tw_677, tw_67, ⟨by decide +kernel, by decide +kernel, by decide +kernel⟩, by decide +kernel⟩ tw_821 (by decide +kernel),
    ⟨_, so_istore_n (i := 2) (k := 2) (by decide +kernel) rfl (by decide +kernel),
    ⟨_, so_aload_n (i := 0) (k := 0) (by decide +kernel) rfl,
    ⟨_, so_getr (ci := 0) (k := 0) (index := 21) rfl CF_0 (by decide +kernel) (fun _ _ _ => rfl) tw_263 rfl (by decide +kernel),
    ⟨_, so_iload (i := 4) (by decide +kernel),
    ⟨_, so_iload_n (i := 1) (k := 1) (by decide +kernel) rfl,
    ⟨_, so_invV (mi' := m_Co_otherEnd) (ci := 1) (n := 2) (index := 70) rfl rfl tw_683 tw_684 ⟨tw_685, tw_67, ⟨by decide +kernel, by decide +kernel, by decide +kernel⟩, by decide +kernel⟩ tw_820 (by decide +kernel),
    ⟨_, so_istore_n (i := 1) (k := 1) (by decide +kernel) rfl (by decide +kernel),
    ⟨_, so_iinc (i := 3) (n := 1) (by decide +kernel) (by decide +kernel),
    ⟨_, so_goto (pc' := 0) (t := 1) (off := -73) (by decide +kernel) rfl,
    trivial⟩⟩⟩⟩⟩⟩⟩⟩⟩⟩⟩⟩⟩⟩⟩⟩⟩⟩⟩⟩
  | 3 => ⟨_, so_ret (pc' := 0) rfl (by decide +kernel),
    trivial⟩
  | _ + 4 => trivial
def c_Cl_firstToHighest : List (List Op) := [
  [op_ci (0), op_istore 4, op_goto 1],
  [op_iload 4, op_aload 0, op_getr SC 0 0, op_invV SC m_Co_roads 1 0, op_icge 3, op_aload 0, op_getr SC 0 0, op_iload 4, op_iload 1, op_invV SC m_Co_canBeCrossed 1 2, op_ifeq 2, op_aload 0, op_aload 0, op_getr SC 0 0, op_iload 4, op_iload 1, op_invV SC m_Co_otherEnd 1 2, op_aload 0, op_getr SC 0 0, op_iload 4, op_iload 1, op_iload 2, op_invV SC m_Co_sumBehind 1 3, op_iload 3, op_invV SC m_Cl_highestHome 0 3, op_aload 0, op_geti SC 0 4, op_icne 2, op_iload 4, op_iret],
  [op_iinc 4 (1), op_goto 1],
  [op_ci (-1), op_iret]]
def t_Cl_firstToHighest : Nat → Nat := fun t => [0, 3, 64, 70].getD t 0
set_option maxRecDepth 100000 in
theorem ok_Cl_firstToHighest : MOK SC m_Cl_firstToHighest c_Cl_firstToHighest t_Cl_firstToHighest := fun t => match t with
  | 0 => ⟨_, so_iconst (n := (0)) (by decide +kernel) ⟨by decide, by decide⟩,
    ⟨_, so_istore (i := 4) (by decide +kernel) (by decide +kernel),
    ⟨_, so_fall (pc' := 0) (t := 1) rfl,
    trivial⟩⟩⟩
  | 1 => ⟨_, so_iload (i := 4) (by decide +kernel),
    ⟨_, so_aload_n (i := 0) (k := 0) (by decide +kernel) rfl,
    ⟨_, so_getr (ci := 0) (k := 0) (index := 21) rfl CF_0 (by decide +kernel) (fun _ _ _ => rfl) tw_263 rfl (by decide +kernel),
    ⟨_, so_invV (mi' := m_Co_roads) (ci := 1) (n := 0) (index := 74) rfl rfl tw_617 tw_618 ⟨tw_619, tw_67, ⟨by decide +kernel, by decide +kernel, by decide +kernel⟩, by decide +kernel⟩ tw_774 (by decide +kernel),
    ⟨_, so_icge (t := 3) (off := 58) (by decide +kernel) rfl,
    ⟨_, so_aload_n (i := 0) (k := 0) (by decide +kernel) rfl,
    ⟨_, so_getr (ci := 0) (k := 0) (index := 21) rfl CF_0 (by decide +kernel) (fun _ _ _ => rfl) tw_263 rfl (by decide +kernel),
    ⟨_, so_iload (i := 4) (by decide +kernel),
    ⟨_, so_iload_n (i := 1) (k := 1) (by decide +kernel) rfl,
    ⟨_, so_invV (mi' := m_Co_canBeCrossed) (ci := 1) (n := 2) (index := 77) rfl rfl tw_658 tw_659 ⟨tw_660, tw_67, ⟨by decide +kernel, by decide +kernel, by decide +kernel⟩, by decide +kernel⟩ tw_819 (by decide +kernel),
    ⟨_, so_ifeq (t := 2) (off := 39) (by decide +kernel) rfl,
    ⟨_, so_aload_n (i := 0) (k := 0) (by decide +kernel) rfl,
    ⟨_, so_aload_n (i := 0) (k := 0) (by decide +kernel) rfl,
    ⟨_, so_getr (ci := 0) (k := 0) (index := 21) rfl CF_0 (by decide +kernel) (fun _ _ _ => rfl) tw_263 rfl (by decide +kernel),
    ⟨_, so_iload (i := 4) (by decide +kernel),
    ⟨_, so_iload_n (i := 1) (k := 1) (by decide +kernel) rfl,
    ⟨_, so_invV (mi' := m_Co_otherEnd) (ci := 1) (n := 2) (index := 70) rfl rfl tw_683 tw_684 ⟨tw_685, tw_67, ⟨by decide +kernel, by decide +kernel, by decide +kernel⟩, by decide +kernel⟩ tw_820 (by decide +kernel),
    ⟨_, so_aload_n (i := 0) (k := 0) (by decide +kernel) rfl,
    ⟨_, so_getr (ci := 0) (k := 0) (index := 21) rfl CF_0 (by decide +kernel) (fun _ _ _ => rfl) tw_263 rfl (by decide +kernel),
    ⟨_, so_iload (i := 4) (by decide +kernel),
    ⟨_, so_iload_n (i := 1) (k := 1) (by decide +kernel) rfl,
    ⟨_, so_iload_n (i := 2) (k := 2) (by decide +kernel) rfl,
    ⟨_, so_invV (mi' := m_Co_sumBehind) (ci := 1) (n := 3) (index := 67) rfl rfl tw_675 tw_676 ⟨tw_677, tw_67, ⟨by decide +kernel, by decide +kernel, by decide +kernel⟩, by decide +kernel⟩ tw_821 (by decide +kernel),
    ⟨_, so_iload_n (i := 3) (k := 3) (by decide +kernel) rfl,
    ⟨_, so_invV (mi' := m_Cl_highestHome) (ci := 0) (n := 3) (index := 81) rfl rfl tw_824 tw_14 ⟨tw_825, tw_71, ⟨by decide +kernel, by decide +kernel, by decide +kernel⟩, by decide +kernel⟩ tw_822 (by decide +kernel),
    ⟨_, so_aload_n (i := 0) (k := 0) (by decide +kernel) rfl,
    ⟨_, so_geti (ci := 0) (k := 4) (index := 44) rfl CF_0 (by decide +kernel) (fun _ _ _ => rfl) tw_268 rfl (by decide +kernel),
    ⟨_, so_icne (t := 2) (off := 6) (by decide +kernel) rfl,
    ⟨_, so_iload (i := 4) (by decide +kernel),
    ⟨_, so_iret (pc' := 0) rfl (by decide +kernel),
    trivial⟩⟩⟩⟩⟩⟩⟩⟩⟩⟩⟩⟩⟩⟩⟩⟩⟩⟩⟩⟩⟩⟩⟩⟩⟩⟩⟩⟩⟩⟩
  | 2 => ⟨_, so_iinc (i := 4) (n := 1) (by decide +kernel) (by decide +kernel),
    ⟨_, so_goto (pc' := 0) (t := 1) (off := -64) (by decide +kernel) rfl,
    trivial⟩⟩
  | 3 => ⟨_, so_iconst (n := (-1)) (by decide +kernel) ⟨by decide, by decide⟩,
    ⟨_, so_iret (pc' := 0) rfl (by decide +kernel),
    trivial⟩⟩
  | _ + 4 => trivial
def c_Cl_highestHome : List (List Op) := [
  [op_aload 0, op_iload 1, op_iload 2, op_invV SC m_Cl_begin 0 2, op_ci (0), op_istore 4, op_goto 1],
  [op_iload 4, op_iload 3, op_icge 2, op_aload 0, op_invV SC m_Cl_advance 0 0, op_iinc 4 (1), op_goto 1],
  [op_aload 0, op_invV SC m_Cl_bestAtHome 0 0, op_iret]]
def t_Cl_highestHome : Nat → Nat := fun t => [0, 9, 25].getD t 0
set_option maxRecDepth 100000 in
theorem ok_Cl_highestHome : MOK SC m_Cl_highestHome c_Cl_highestHome t_Cl_highestHome := fun t => match t with
  | 0 => ⟨_, so_aload_n (i := 0) (k := 0) (by decide +kernel) rfl,
    ⟨_, so_iload_n (i := 1) (k := 1) (by decide +kernel) rfl,
    ⟨_, so_iload_n (i := 2) (k := 2) (by decide +kernel) rfl,
    ⟨_, so_invV (mi' := m_Cl_begin) (ci := 0) (n := 2) (index := 40) rfl rfl tw_764 tw_8 ⟨tw_765, tw_71, ⟨by decide +kernel, by decide +kernel, by decide +kernel⟩, by decide +kernel⟩ tw_762 (by decide +kernel),
    ⟨_, so_iconst (n := (0)) (by decide +kernel) ⟨by decide, by decide⟩,
    ⟨_, so_istore (i := 4) (by decide +kernel) (by decide +kernel),
    ⟨_, so_fall (pc' := 0) (t := 1) rfl,
    trivial⟩⟩⟩⟩⟩⟩⟩
  | 1 => ⟨_, so_iload (i := 4) (by decide +kernel),
    ⟨_, so_iload_n (i := 3) (k := 3) (by decide +kernel) rfl,
    ⟨_, so_icge (t := 2) (off := 13) (by decide +kernel) rfl,
    ⟨_, so_aload_n (i := 0) (k := 0) (by decide +kernel) rfl,
    ⟨_, so_invV (mi' := m_Cl_advance) (ci := 0) (n := 0) (index := 50) rfl rfl tw_772 tw_9 ⟨tw_773, tw_71, ⟨by decide +kernel, by decide +kernel, by decide +kernel⟩, by decide +kernel⟩ tw_770 (by decide +kernel),
    ⟨_, so_iinc (i := 4) (n := 1) (by decide +kernel) (by decide +kernel),
    ⟨_, so_goto (pc' := 0) (t := 1) (off := -13) (by decide +kernel) rfl,
    trivial⟩⟩⟩⟩⟩⟩⟩
  | 2 => ⟨_, so_aload_n (i := 0) (k := 0) (by decide +kernel) rfl,
    ⟨_, so_invV (mi' := m_Cl_bestAtHome) (ci := 0) (n := 0) (index := 60) rfl rfl tw_805 tw_12 ⟨tw_806, tw_71, ⟨by decide +kernel, by decide +kernel, by decide +kernel⟩, by decide +kernel⟩ tw_803 (by decide +kernel),
    ⟨_, so_iret (pc' := 0) rfl (by decide +kernel),
    trivial⟩⟩⟩
  | _ + 3 => trivial
def c_Cl_bestAtHome : List (List Op) := [
  [op_aload 0, op_getr SC 0 0, op_getr SC 1 0, op_geti SC 7 0, op_istore 1, op_aload 0, op_getr SC 0 0, op_iload 1, op_invV SC m_Co_hasPlace 1 1, op_ifeq 1, op_aload 0, op_getr SC 0 2, op_iload 1, op_iald SC, op_goto 2],
  [op_ci (-1), op_goto 2],
  [op_iret]]
def t_Cl_bestAtHome : Nat → Nat := fun t => [0, 31, 32].getD t 0
set_option maxRecDepth 100000 in
theorem ok_Cl_bestAtHome : MOK SC m_Cl_bestAtHome c_Cl_bestAtHome t_Cl_bestAtHome := fun t => match t with
  | 0 => ⟨_, so_aload_n (i := 0) (k := 0) (by decide +kernel) rfl,
    ⟨_, so_getr (ci := 0) (k := 0) (index := 21) rfl CF_0 (by decide +kernel) (fun _ _ _ => rfl) tw_263 rfl (by decide +kernel),
    ⟨_, so_getrN (ci := 1) (k := 0) (index := 25) rfl CF_1 (by decide +kernel) (fun _ _ _ => rfl) tw_169 rfl (by decide +kernel),
    ⟨_, so_getiN (ci := 7) (k := 0) (index := 31) rfl CF_7 (by decide +kernel) (fun _ _ _ => rfl) tw_126 rfl (by decide +kernel),
    ⟨_, so_istore_n (i := 1) (k := 1) (by decide +kernel) rfl (by decide +kernel),
    ⟨_, so_aload_n (i := 0) (k := 0) (by decide +kernel) rfl,
    ⟨_, so_getr (ci := 0) (k := 0) (index := 21) rfl CF_0 (by decide +kernel) (fun _ _ _ => rfl) tw_263 rfl (by decide +kernel),
    ⟨_, so_iload_n (i := 1) (k := 1) (by decide +kernel) rfl,
    ⟨_, so_invV (mi' := m_Co_hasPlace) (ci := 1) (n := 1) (index := 84) rfl rfl tw_522 tw_523 ⟨tw_524, tw_67, ⟨by decide +kernel, by decide +kernel, by decide +kernel⟩, by decide +kernel⟩ tw_769 (by decide +kernel),
    ⟨_, so_ifeq (t := 1) (off := 12) (by decide +kernel) rfl,
    ⟨_, so_aload_n (i := 0) (k := 0) (by decide +kernel) rfl,
    ⟨_, so_getr (ci := 0) (k := 2) (index := 15) rfl CF_0 (by decide +kernel) (fun _ _ _ => rfl) tw_266 rfl (by decide +kernel),
    ⟨_, so_iload_n (i := 1) (k := 1) (by decide +kernel) rfl,
    ⟨_, so_iald rfl (by decide +kernel),
    ⟨_, so_goto (pc' := 0) (t := 2) (off := 4) (by decide +kernel) rfl,
    trivial⟩⟩⟩⟩⟩⟩⟩⟩⟩⟩⟩⟩⟩⟩⟩
  | 1 => ⟨_, so_iconst (n := (-1)) (by decide +kernel) ⟨by decide, by decide⟩,
    ⟨_, so_fall (pc' := 0) (t := 2) rfl,
    trivial⟩⟩
  | 2 => ⟨_, so_iret (pc' := 0) rfl (by decide +kernel),
    trivial⟩
  | _ + 3 => trivial
def c_Cl_begin : List (List Op) := [
  [op_aload 0, op_getr SC 0 2, op_ci (-1), op_invS SC m_Jd_fill 2, op_aload 0, op_getr SC 0 0, op_iload 1, op_invV SC m_Co_hasPlace 1 1, op_ifeq 1, op_aload 0, op_getr SC 0 2, op_iload 1, op_iload 2, op_iast SC, op_goto 1],
  [op_ret]]
def t_Cl_begin : Nat → Nat := fun t => [0, 26].getD t 0
set_option maxRecDepth 100000 in
theorem ok_Cl_begin : MOK SC m_Cl_begin c_Cl_begin t_Cl_begin := fun t => match t with
  | 0 => ⟨_, so_aload_n (i := 0) (k := 0) (by decide +kernel) rfl,
    ⟨_, so_getr (ci := 0) (k := 2) (index := 15) rfl CF_0 (by decide +kernel) (fun _ _ _ => rfl) tw_266 rfl (by decide +kernel),
    ⟨_, so_iconst (n := (-1)) (by decide +kernel) ⟨by decide, by decide⟩,
    ⟨_, so_invS (mi' := m_Jd_fill) (n := 2) (index := 88) tw_767 ⟨tw_768, tw_83, ⟨by decide +kernel, by decide +kernel, by decide +kernel⟩, by decide +kernel⟩ tw_766 (by decide +kernel),
    ⟨_, so_aload_n (i := 0) (k := 0) (by decide +kernel) rfl,
    ⟨_, so_getr (ci := 0) (k := 0) (index := 21) rfl CF_0 (by decide +kernel) (fun _ _ _ => rfl) tw_263 rfl (by decide +kernel),
    ⟨_, so_iload_n (i := 1) (k := 1) (by decide +kernel) rfl,
    ⟨_, so_invV (mi' := m_Co_hasPlace) (ci := 1) (n := 1) (index := 84) rfl rfl tw_522 tw_523 ⟨tw_524, tw_67, ⟨by decide +kernel, by decide +kernel, by decide +kernel⟩, by decide +kernel⟩ tw_769 (by decide +kernel),
    ⟨_, so_ifeq (t := 1) (off := 10) (by decide +kernel) rfl,
    ⟨_, so_aload_n (i := 0) (k := 0) (by decide +kernel) rfl,
    ⟨_, so_getr (ci := 0) (k := 2) (index := 15) rfl CF_0 (by decide +kernel) (fun _ _ _ => rfl) tw_266 rfl (by decide +kernel),
    ⟨_, so_iload_n (i := 1) (k := 1) (by decide +kernel) rfl,
    ⟨_, so_iload_n (i := 2) (k := 2) (by decide +kernel) rfl,
    ⟨_, so_iast rfl (by decide +kernel),
    ⟨_, so_fall (pc' := 0) (t := 1) rfl,
    trivial⟩⟩⟩⟩⟩⟩⟩⟩⟩⟩⟩⟩⟩⟩⟩
  | 1 => ⟨_, so_ret (pc' := 0) rfl (by decide +kernel),
    trivial⟩
  | _ + 2 => trivial
def c_Cl_advance : List (List Op) := [
  [op_aload 0, op_getr SC 0 3, op_ci (-1), op_invS SC m_Jd_fill 2, op_ci (0), op_istore 1, op_goto 1],
  [op_iload 1, op_aload 0, op_getr SC 0 0, op_invV SC m_Co_roads 1 0, op_icge 3, op_aload 0, op_getr SC 0 0, op_getr SC 1 0, op_iload 1, op_invV SC m_St_isShut 7 1, op_ifne 2, op_aload 0, op_iload 1, op_aload 0, op_getr SC 0 0, op_iload 1, op_invV SC m_Co_startOf 1 1, op_aload 0, op_getr SC 0 0, op_iload 1, op_invV SC m_Co_endOf 1 1, op_invV SC m_Cl_carry 0 3, op_aload 0, op_iload 1, op_aload 0, op_getr SC 0 0, op_iload 1, op_invV SC m_Co_endOf 1 1, op_aload 0, op_getr SC 0 0, op_iload 1, op_invV SC m_Co_startOf 1 1, op_invV SC m_Cl_carry 0 3, op_goto 2],
  [op_iinc 1 (1), op_goto 1],
  [op_aload 0, op_getr SC 0 2, op_astore 1, op_aload 0, op_aload 0, op_getr SC 0 3, op_putr SC 0 2, op_aload 0, op_aload 1, op_putr SC 0 3, op_ret]]
def t_Cl_advance : Nat → Nat := fun t => [0, 10, 77, 83].getD t 0
set_option maxRecDepth 100000 in
theorem ok_Cl_advance : MOK SC m_Cl_advance c_Cl_advance t_Cl_advance := fun t => match t with
  | 0 => ⟨_, so_aload_n (i := 0) (k := 0) (by decide +kernel) rfl,
    ⟨_, so_getr (ci := 0) (k := 3) (index := 18) rfl CF_0 (by decide +kernel) (fun _ _ _ => rfl) tw_267 rfl (by decide +kernel),
    ⟨_, so_iconst (n := (-1)) (by decide +kernel) ⟨by decide, by decide⟩,
    ⟨_, so_invS (mi' := m_Jd_fill) (n := 2) (index := 88) tw_767 ⟨tw_768, tw_83, ⟨by decide +kernel, by decide +kernel, by decide +kernel⟩, by decide +kernel⟩ tw_766 (by decide +kernel),
    ⟨_, so_iconst (n := (0)) (by decide +kernel) ⟨by decide, by decide⟩,
    ⟨_, so_istore_n (i := 1) (k := 1) (by decide +kernel) rfl (by decide +kernel),
    ⟨_, so_fall (pc' := 0) (t := 1) rfl,
    trivial⟩⟩⟩⟩⟩⟩⟩
  | 1 => ⟨_, so_iload_n (i := 1) (k := 1) (by decide +kernel) rfl,
    ⟨_, so_aload_n (i := 0) (k := 0) (by decide +kernel) rfl,
    ⟨_, so_getr (ci := 0) (k := 0) (index := 21) rfl CF_0 (by decide +kernel) (fun _ _ _ => rfl) tw_263 rfl (by decide +kernel),
    ⟨_, so_invV (mi' := m_Co_roads) (ci := 1) (n := 0) (index := 74) rfl rfl tw_617 tw_618 ⟨tw_619, tw_67, ⟨by decide +kernel, by decide +kernel, by decide +kernel⟩, by decide +kernel⟩ tw_774 (by decide +kernel),
    ⟨_, so_icge (t := 3) (off := 65) (by decide +kernel) rfl,
    ⟨_, so_aload_n (i := 0) (k := 0) (by decide +kernel) rfl,
    ⟨_, so_getr (ci := 0) (k := 0) (index := 21) rfl CF_0 (by decide +kernel) (fun _ _ _ => rfl) tw_263 rfl (by decide +kernel),
    ⟨_, so_getrN (ci := 1) (k := 0) (index := 25) rfl CF_1 (by decide +kernel) (fun _ _ _ => rfl) tw_169 rfl (by decide +kernel),
    ⟨_, so_iload_n (i := 1) (k := 1) (by decide +kernel) rfl,
    ⟨_, so_invV (mi' := m_St_isShut) (ci := 7) (n := 1) (index := 94) rfl rfl tw_638 tw_639 ⟨tw_640, tw_68, ⟨by decide +kernel, by decide +kernel, by decide +kernel⟩, by decide +kernel⟩ tw_775 (by decide +kernel),
    ⟨_, so_ifne (t := 2) (off := 45) (by decide +kernel) rfl,
    ⟨_, so_aload_n (i := 0) (k := 0) (by decide +kernel) rfl,
    ⟨_, so_iload_n (i := 1) (k := 1) (by decide +kernel) rfl,
    ⟨_, so_aload_n (i := 0) (k := 0) (by decide +kernel) rfl,
    ⟨_, so_getr (ci := 0) (k := 0) (index := 21) rfl CF_0 (by decide +kernel) (fun _ _ _ => rfl) tw_263 rfl (by decide +kernel),
    ⟨_, so_iload_n (i := 1) (k := 1) (by decide +kernel) rfl,
    ⟨_, so_invV (mi' := m_Co_startOf) (ci := 1) (n := 1) (index := 97) rfl rfl tw_630 tw_631 ⟨tw_632, tw_67, ⟨by decide +kernel, by decide +kernel, by decide +kernel⟩, by decide +kernel⟩ tw_776 (by decide +kernel),
    ⟨_, so_aload_n (i := 0) (k := 0) (by decide +kernel) rfl,
    ⟨_, so_getr (ci := 0) (k := 0) (index := 21) rfl CF_0 (by decide +kernel) (fun _ _ _ => rfl) tw_263 rfl (by decide +kernel),
    ⟨_, so_iload_n (i := 1) (k := 1) (by decide +kernel) rfl,
    ⟨_, so_invV (mi' := m_Co_endOf) (ci := 1) (n := 1) (index := 101) rfl rfl tw_634 tw_635 ⟨tw_636, tw_67, ⟨by decide +kernel, by decide +kernel, by decide +kernel⟩, by decide +kernel⟩ tw_777 (by decide +kernel),
    ⟨_, so_invV (mi' := m_Cl_carry) (ci := 0) (n := 3) (index := 104) rfl rfl tw_780 tw_10 ⟨tw_781, tw_71, ⟨by decide +kernel, by decide +kernel, by decide +kernel⟩, by decide +kernel⟩ tw_778 (by decide +kernel),
    ⟨_, so_aload_n (i := 0) (k := 0) (by decide +kernel) rfl,
    ⟨_, so_iload_n (i := 1) (k := 1) (by decide +kernel) rfl,
    ⟨_, so_aload_n (i := 0) (k := 0) (by decide +kernel) rfl,
    ⟨_, so_getr (ci := 0) (k := 0) (index := 21) rfl CF_0 (by decide +kernel) (fun _ _ _ => rfl) tw_263 rfl (by decide +kernel),
    ⟨_, so_iload_n (i := 1) (k := 1) (by decide +kernel) rfl,
    ⟨_, so_invV (mi' := m_Co_endOf) (ci := 1) (n := 1) (index := 101) rfl rfl tw_634 tw_635 ⟨tw_636, tw_67, ⟨by decide +kernel, by decide +kernel, by decide +kernel⟩, by decide +kernel⟩ tw_777 (by decide +kernel),
    ⟨_, so_aload_n (i := 0) (k := 0) (by decide +kernel) rfl,
    ⟨_, so_getr (ci := 0) (k := 0) (index := 21) rfl CF_0 (by decide +kernel) (fun _ _ _ => rfl) tw_263 rfl (by decide +kernel),
    ⟨_, so_iload_n (i := 1) (k := 1) (by decide +kernel) rfl,
    ⟨_, so_invV (mi' := m_Co_startOf) (ci := 1) (n := 1) (index := 97) rfl rfl tw_630 tw_631 ⟨tw_632, tw_67, ⟨by decide +kernel, by decide +kernel, by decide +kernel⟩, by decide +kernel⟩ tw_776 (by decide +kernel),
    ⟨_, so_invV (mi' := m_Cl_carry) (ci := 0) (n := 3) (index := 104) rfl rfl tw_780 tw_10 ⟨tw_781, tw_71, ⟨by decide +kernel, by decide +kernel, by decide +kernel⟩, by decide +kernel⟩ tw_778 (by decide +kernel),
    ⟨_, so_fall (pc' := 0) (t := 2) rfl,
    trivial⟩⟩⟩⟩⟩⟩⟩⟩⟩⟩⟩⟩⟩⟩⟩⟩⟩⟩⟩⟩⟩⟩⟩⟩⟩⟩⟩⟩⟩⟩⟩⟩⟩⟩
  | 2 => ⟨_, so_iinc (i := 1) (n := 1) (by decide +kernel) (by decide +kernel),
    ⟨_, so_goto (pc' := 0) (t := 1) (off := -70) (by decide +kernel) rfl,
    trivial⟩⟩
  | 3 => ⟨_, so_aload_n (i := 0) (k := 0) (by decide +kernel) rfl,
    ⟨_, so_getr (ci := 0) (k := 2) (index := 15) rfl CF_0 (by decide +kernel) (fun _ _ _ => rfl) tw_266 rfl (by decide +kernel),
    ⟨_, so_astore_n (i := 1) (k := 1) (by decide +kernel) rfl (by decide +kernel),
    ⟨_, so_aload_n (i := 0) (k := 0) (by decide +kernel) rfl,
    ⟨_, so_aload_n (i := 0) (k := 0) (by decide +kernel) rfl,
    ⟨_, so_getr (ci := 0) (k := 3) (index := 18) rfl CF_0 (by decide +kernel) (fun _ _ _ => rfl) tw_267 rfl (by decide +kernel),
    ⟨_, so_putr (ci := 0) (k := 2) (index := 15) rfl CF_0 (by decide +kernel) (Or.inr ⟨_, rfl⟩) tw_266 rfl rfl (by decide +kernel),
    ⟨_, so_aload_n (i := 0) (k := 0) (by decide +kernel) rfl,
    ⟨_, so_aload_n (i := 1) (k := 1) (by decide +kernel) rfl,
    ⟨_, so_putr (ci := 0) (k := 3) (index := 18) rfl CF_0 (by decide +kernel) (Or.inr ⟨_, rfl⟩) tw_267 rfl rfl (by decide +kernel),
    ⟨_, so_ret (pc' := 0) rfl (by decide +kernel),
    trivial⟩⟩⟩⟩⟩⟩⟩⟩⟩⟩⟩
  | _ + 4 => trivial
def c_Cl_carry : List (List Op) := [
  [op_aload 0, op_getr SC 0 0, op_iload 2, op_invV SC m_Co_hasPlace 1 1, op_ifeq 1, op_aload 0, op_getr SC 0 0, op_iload 3, op_invV SC m_Co_hasPlace 1 1, op_ifeq 1, op_aload 0, op_getr SC 0 2, op_iload 2, op_iald SC, op_ci (-1), op_iceq 1, op_aload 0, op_getr SC 0 3, op_iload 3, op_aload 0, op_getr SC 0 3, op_iload 3, op_iald SC, op_aload 0, op_getr SC 0 0, op_iload 1, op_aload 0, op_getr SC 0 0, op_iload 1, op_iload 2, op_invV SC m_Co_figureFrom 1 2, op_aload 0, op_getr SC 0 2, op_iload 2, op_iald SC, op_invV SC m_Co_sumBy 1 3, op_max, op_iast SC, op_goto 1],
  [op_ret]]
def t_Cl_carry : Nat → Nat := fun t => [0, 70].getD t 0
set_option maxRecDepth 100000 in
theorem ok_Cl_carry : MOK SC m_Cl_carry c_Cl_carry t_Cl_carry := fun t => match t with
  | 0 => ⟨_, so_aload_n (i := 0) (k := 0) (by decide +kernel) rfl,
    ⟨_, so_getr (ci := 0) (k := 0) (index := 21) rfl CF_0 (by decide +kernel) (fun _ _ _ => rfl) tw_263 rfl (by decide +kernel),
    ⟨_, so_iload_n (i := 2) (k := 2) (by decide +kernel) rfl,
    ⟨_, so_invV (mi' := m_Co_hasPlace) (ci := 1) (n := 1) (index := 84) rfl rfl tw_522 tw_523 ⟨tw_524, tw_67, ⟨by decide +kernel, by decide +kernel, by decide +kernel⟩, by decide +kernel⟩ tw_769 (by decide +kernel),
    ⟨_, so_ifeq (t := 1) (off := 62) (by decide +kernel) rfl,
    ⟨_, so_aload_n (i := 0) (k := 0) (by decide +kernel) rfl,
    ⟨_, so_getr (ci := 0) (k := 0) (index := 21) rfl CF_0 (by decide +kernel) (fun _ _ _ => rfl) tw_263 rfl (by decide +kernel),
    ⟨_, so_iload_n (i := 3) (k := 3) (by decide +kernel) rfl,
    ⟨_, so_invV (mi' := m_Co_hasPlace) (ci := 1) (n := 1) (index := 84) rfl rfl tw_522 tw_523 ⟨tw_524, tw_67, ⟨by decide +kernel, by decide +kernel, by decide +kernel⟩, by decide +kernel⟩ tw_769 (by decide +kernel),
    ⟨_, so_ifeq (t := 1) (off := 51) (by decide +kernel) rfl,
    ⟨_, so_aload_n (i := 0) (k := 0) (by decide +kernel) rfl,
    ⟨_, so_getr (ci := 0) (k := 2) (index := 15) rfl CF_0 (by decide +kernel) (fun _ _ _ => rfl) tw_266 rfl (by decide +kernel),
    ⟨_, so_iload_n (i := 2) (k := 2) (by decide +kernel) rfl,
    ⟨_, so_iald rfl (by decide +kernel),
    ⟨_, so_iconst (n := (-1)) (by decide +kernel) ⟨by decide, by decide⟩,
    ⟨_, so_iceq (t := 1) (off := 41) (by decide +kernel) rfl,
    ⟨_, so_aload_n (i := 0) (k := 0) (by decide +kernel) rfl,
    ⟨_, so_getr (ci := 0) (k := 3) (index := 18) rfl CF_0 (by decide +kernel) (fun _ _ _ => rfl) tw_267 rfl (by decide +kernel),
    ⟨_, so_iload_n (i := 3) (k := 3) (by decide +kernel) rfl,
    ⟨_, so_aload_n (i := 0) (k := 0) (by decide +kernel) rfl,
    ⟨_, so_getr (ci := 0) (k := 3) (index := 18) rfl CF_0 (by decide +kernel) (fun _ _ _ => rfl) tw_267 rfl (by decide +kernel),
    ⟨_, so_iload_n (i := 3) (k := 3) (by decide +kernel) rfl,
    ⟨_, so_iald rfl (by decide +kernel),
    ⟨_, so_aload_n (i := 0) (k := 0) (by decide +kernel) rfl,
    ⟨_, so_getr (ci := 0) (k := 0) (index := 21) rfl CF_0 (by decide +kernel) (fun _ _ _ => rfl) tw_263 rfl (by decide +kernel),
    ⟨_, so_iload_n (i := 1) (k := 1) (by decide +kernel) rfl,
    ⟨_, so_aload_n (i := 0) (k := 0) (by decide +kernel) rfl,
    ⟨_, so_getr (ci := 0) (k := 0) (index := 21) rfl CF_0 (by decide +kernel) (fun _ _ _ => rfl) tw_263 rfl (by decide +kernel),
    ⟨_, so_iload_n (i := 1) (k := 1) (by decide +kernel) rfl,
    ⟨_, so_iload_n (i := 2) (k := 2) (by decide +kernel) rfl,
    ⟨_, so_invV (mi' := m_Co_figureFrom) (ci := 1) (n := 2) (index := 108) rfl rfl tw_671 tw_672 ⟨tw_673, tw_67, ⟨by decide +kernel, by decide +kernel, by decide +kernel⟩, by decide +kernel⟩ tw_782 (by decide +kernel),
    ⟨_, so_aload_n (i := 0) (k := 0) (by decide +kernel) rfl,
    ⟨_, so_getr (ci := 0) (k := 2) (index := 15) rfl CF_0 (by decide +kernel) (fun _ _ _ => rfl) tw_266 rfl (by decide +kernel),
    ⟨_, so_iload_n (i := 2) (k := 2) (by decide +kernel) rfl,
    ⟨_, so_iald rfl (by decide +kernel),
    ⟨_, so_invV (mi' := m_Co_sumBy) (ci := 1) (n := 3) (index := 111) rfl rfl tw_679 tw_680 ⟨tw_681, tw_67, ⟨by decide +kernel, by decide +kernel, by decide +kernel⟩, by decide +kernel⟩ tw_783 (by decide +kernel),
    ⟨_, so_max (index := 114) tw_784 tw_785 tw_84 tw_786 (by decide +kernel) (by decide +kernel),
    ⟨_, so_iast rfl (by decide +kernel),
    ⟨_, so_fall (pc' := 0) (t := 1) rfl,
    trivial⟩⟩⟩⟩⟩⟩⟩⟩⟩⟩⟩⟩⟩⟩⟩⟩⟩⟩⟩⟩⟩⟩⟩⟩⟩⟩⟩⟩⟩⟩⟩⟩⟩⟩⟩⟩⟩⟩⟩
  | 1 => ⟨_, so_ret (pc' := 0) rfl (by decide +kernel),
    trivial⟩
  | _ + 2 => trivial
def c_Co_init : List (List Op) := [
  [op_aload 0, op_oinit, op_aload 0, op_new SC 7 6, op_dup, op_invI SC m_St_init 0, op_putr SC 1 0, op_aload 0, op_ci (9), op_newa SC .int, op_putr SC 1 1, op_aload 0, op_ci (9), op_newa SC .int, op_putr SC 1 2, op_aload 0, op_ci (9), op_newa SC .int, op_putr SC 1 3, op_aload 0, op_ci (9), op_newa SC .int, op_putr SC 1 4, op_ret]]
def t_Co_init : Nat → Nat := fun t => [0].getD t 0
set_option maxRecDepth 100000 in
theorem ok_Co_init : MOK SC m_Co_init c_Co_init t_Co_init := fun t => match t with
  | 0 => ⟨_, so_aload_n (i := 0) (k := 0) (by decide +kernel) rfl,
    ⟨_, so_oinit (index := 3) tw_118 tw_91 tw_92 (by decide +kernel) (by decide +kernel),
    ⟨_, so_aload_n (i := 0) (k := 0) (by decide +kernel) rfl,
    ⟨_, so_new (ci := 7) (index := 9) CF_7 (by decide +kernel) tw_119 tw_120 tw_68 (by decide +kernel),
    ⟨_, so_dup (by decide +kernel),
    ⟨_, so_invIN (mi' := m_St_init) (n := 0) (index := 11) tw_122 rfl rfl ⟨tw_123, tw_68, ⟨by decide +kernel, by decide +kernel, by decide +kernel⟩, by decide +kernel⟩ tw_121 (by decide +kernel),
    ⟨_, so_putrF (ci := 1) (k := 0) (index := 12) rfl CF_1 (by decide +kernel) (Or.inl ⟨_, rfl⟩) tw_167 rfl rfl rfl rfl (by decide +kernel),
    ⟨_, so_aload_n (i := 0) (k := 0) (by decide +kernel) rfl,
    ⟨_, so_bipush (n := (9)) (by decide +kernel) (by decide +kernel) ⟨by decide, by decide⟩,
    ⟨_, so_newa (atype := .int) (ty := .int) rfl (by decide) tw_166 (by decide +kernel),
    ⟨_, so_putrF (ci := 1) (k := 1) (index := 18) rfl CF_1 (by decide +kernel) (Or.inr ⟨_, rfl⟩) tw_175 rfl rfl rfl rfl (by decide +kernel),
    ⟨_, so_aload_n (i := 0) (k := 0) (by decide +kernel) rfl,
    ⟨_, so_bipush (n := (9)) (by decide +kernel) (by decide +kernel) ⟨by decide, by decide⟩,
    ⟨_, so_newa (atype := .int) (ty := .int) rfl (by decide) tw_166 (by decide +kernel),
    ⟨_, so_putrF (ci := 1) (k := 2) (index := 22) rfl CF_1 (by decide +kernel) (Or.inr ⟨_, rfl⟩) tw_176 rfl rfl rfl rfl (by decide +kernel),
    ⟨_, so_aload_n (i := 0) (k := 0) (by decide +kernel) rfl,
    ⟨_, so_bipush (n := (9)) (by decide +kernel) (by decide +kernel) ⟨by decide, by decide⟩,
    ⟨_, so_newa (atype := .int) (ty := .int) rfl (by decide) tw_166 (by decide +kernel),
    ⟨_, so_putrF (ci := 1) (k := 3) (index := 25) rfl CF_1 (by decide +kernel) (Or.inr ⟨_, rfl⟩) tw_177 rfl rfl rfl rfl (by decide +kernel),
    ⟨_, so_aload_n (i := 0) (k := 0) (by decide +kernel) rfl,
    ⟨_, so_bipush (n := (9)) (by decide +kernel) (by decide +kernel) ⟨by decide, by decide⟩,
    ⟨_, so_newa (atype := .int) (ty := .int) rfl (by decide) tw_166 (by decide +kernel),
    ⟨_, so_putrF (ci := 1) (k := 4) (index := 28) rfl CF_1 (by decide +kernel) (Or.inr ⟨_, rfl⟩) tw_178 rfl rfl rfl rfl (by decide +kernel),
    ⟨_, so_ret (pc' := 0) rfl (by decide +kernel),
    trivial⟩⟩⟩⟩⟩⟩⟩⟩⟩⟩⟩⟩⟩⟩⟩⟩⟩⟩⟩⟩⟩⟩⟩⟩
  | _ + 1 => trivial
def c_Co_clear : List (List Op) := [
  [op_aload 0, op_ci (4), op_puti SC 1 5, op_aload 0, op_ci (0), op_puti SC 1 6, op_aload 0, op_ci (0), op_puti SC 1 7, op_aload 0, op_getr SC 1 0, op_ci (0), op_puti SC 7 0, op_aload 0, op_getr SC 1 0, op_ci (50), op_puti SC 7 1, op_aload 0, op_getr SC 1 0, op_ci (0), op_puti SC 7 2, op_aload 0, op_getr SC 1 0, op_ci (0), op_puti SC 7 3, op_ret]]
def t_Co_clear : Nat → Nat := fun t => [0].getD t 0
set_option maxRecDepth 100000 in
theorem ok_Co_clear : MOK SC m_Co_clear c_Co_clear t_Co_clear := fun t => match t with
  | 0 => ⟨_, so_aload_n (i := 0) (k := 0) (by decide +kernel) rfl,
    ⟨_, so_iconst (n := (4)) (by decide +kernel) ⟨by decide, by decide⟩,
    ⟨_, so_puti (ci := 1) (k := 5) (index := 31) rfl CF_1 (by decide +kernel) rfl tw_179 rfl rfl (by decide +kernel),
    ⟨_, so_aload_n (i := 0) (k := 0) (by decide +kernel) rfl,
    ⟨_, so_iconst (n := (0)) (by decide +kernel) ⟨by decide, by decide⟩,
    ⟨_, so_puti (ci := 1) (k := 6) (index := 35) rfl CF_1 (by decide +kernel) rfl tw_180 rfl rfl (by decide +kernel),
    ⟨_, so_aload_n (i := 0) (k := 0) (by decide +kernel) rfl,
    ⟨_, so_iconst (n := (0)) (by decide +kernel) ⟨by decide, by decide⟩,
    ⟨_, so_puti (ci := 1) (k := 7) (index := 38) rfl CF_1 (by decide +kernel) rfl tw_181 rfl rfl (by decide +kernel),
    ⟨_, so_aload_n (i := 0) (k := 0) (by decide +kernel) rfl,
    ⟨_, so_getr (ci := 1) (k := 0) (index := 12) rfl CF_1 (by decide +kernel) (fun _ _ _ => rfl) tw_167 rfl (by decide +kernel),
    ⟨_, so_iconst (n := (0)) (by decide +kernel) ⟨by decide, by decide⟩,
    ⟨_, so_putiN (ci := 7) (k := 0) (index := 41) rfl CF_7 (by decide +kernel) rfl tw_127 rfl rfl (by decide +kernel),
    ⟨_, so_aload_n (i := 0) (k := 0) (by decide +kernel) rfl,
    ⟨_, so_getr (ci := 1) (k := 0) (index := 12) rfl CF_1 (by decide +kernel) (fun _ _ _ => rfl) tw_167 rfl (by decide +kernel),
    ⟨_, so_bipush (n := (50)) (by decide +kernel) (by decide +kernel) ⟨by decide, by decide⟩,
    ⟨_, so_putiN (ci := 7) (k := 1) (index := 44) rfl CF_7 (by decide +kernel) rfl tw_134 rfl rfl (by decide +kernel),
    ⟨_, so_aload_n (i := 0) (k := 0) (by decide +kernel) rfl,
    ⟨_, so_getr (ci := 1) (k := 0) (index := 12) rfl CF_1 (by decide +kernel) (fun _ _ _ => rfl) tw_167 rfl (by decide +kernel),
    ⟨_, so_iconst (n := (0)) (by decide +kernel) ⟨by decide, by decide⟩,
    ⟨_, so_putiN (ci := 7) (k := 2) (index := 47) rfl CF_7 (by decide +kernel) rfl tw_139 rfl rfl (by decide +kernel),
    ⟨_, so_aload_n (i := 0) (k := 0) (by decide +kernel) rfl,
    ⟨_, so_getr (ci := 1) (k := 0) (index := 12) rfl CF_1 (by decide +kernel) (fun _ _ _ => rfl) tw_167 rfl (by decide +kernel),
    ⟨_, so_iconst (n := (0)) (by decide +kernel) ⟨by decide, by decide⟩,
    ⟨_, so_putiN (ci := 7) (k := 3) (index := 50) rfl CF_7 (by decide +kernel) rfl tw_143 rfl rfl (by decide +kernel),
    ⟨_, so_ret (pc' := 0) rfl (by decide +kernel),
    trivial⟩⟩⟩⟩⟩⟩⟩⟩⟩⟩⟩⟩⟩⟩⟩⟩⟩⟩⟩⟩⟩⟩⟩⟩⟩⟩
  | _ + 1 => trivial
def c_Co_copyFrom : List (List Op) := [
  [op_aload 0, op_aload 1, op_geti SC 1 5, op_puti SC 1 5, op_aload 0, op_aload 1, op_geti SC 1 6, op_puti SC 1 6, op_aload 0, op_aload 1, op_geti SC 1 7, op_puti SC 1 7, op_aload 1, op_getr SC 1 1, op_ci (0), op_aload 0, op_getr SC 1 1, op_ci (0), op_ci (9), op_acopy SC, op_aload 1, op_getr SC 1 2, op_ci (0), op_aload 0, op_getr SC 1 2, op_ci (0), op_ci (9), op_acopy SC, op_aload 1, op_getr SC 1 3, op_ci (0), op_aload 0, op_getr SC 1 3, op_ci (0), op_ci (9), op_acopy SC, op_aload 1, op_getr SC 1 4, op_ci (0), op_aload 0, op_getr SC 1 4, op_ci (0), op_ci (9), op_acopy SC, op_aload 0, op_getr SC 1 0, op_aload 1, op_getr SC 1 0, op_invV SC m_St_copyFrom 7 1, op_ret]]
def t_Co_copyFrom : Nat → Nat := fun t => [0].getD t 0
set_option maxRecDepth 100000 in
theorem ok_Co_copyFrom : MOK SC m_Co_copyFrom c_Co_copyFrom t_Co_copyFrom := fun t => match t with
  | 0 => ⟨_, so_aload_n (i := 0) (k := 0) (by decide +kernel) rfl,
    ⟨_, so_aload_n (i := 1) (k := 1) (by decide +kernel) rfl,
    ⟨_, so_geti (ci := 1) (k := 5) (index := 31) rfl CF_1 (by decide +kernel) (fun _ _ _ => rfl) tw_179 rfl (by decide +kernel),
    ⟨_, so_puti (ci := 1) (k := 5) (index := 31) rfl CF_1 (by decide +kernel) rfl tw_179 rfl rfl (by decide +kernel),
    ⟨_, so_aload_n (i := 0) (k := 0) (by decide +kernel) rfl,
    ⟨_, so_aload_n (i := 1) (k := 1) (by decide +kernel) rfl,
    ⟨_, so_geti (ci := 1) (k := 6) (index := 35) rfl CF_1 (by decide +kernel) (fun _ _ _ => rfl) tw_180 rfl (by decide +kernel),
    ⟨_, so_puti (ci := 1) (k := 6) (index := 35) rfl CF_1 (by decide +kernel) rfl tw_180 rfl rfl (by decide +kernel),
    ⟨_, so_aload_n (i := 0) (k := 0) (by decide +kernel) rfl,
    ⟨_, so_aload_n (i := 1) (k := 1) (by decide +kernel) rfl,
    ⟨_, so_geti (ci := 1) (k := 7) (index := 38) rfl CF_1 (by decide +kernel) (fun _ _ _ => rfl) tw_181 rfl (by decide +kernel),
    ⟨_, so_puti (ci := 1) (k := 7) (index := 38) rfl CF_1 (by decide +kernel) rfl tw_181 rfl rfl (by decide +kernel),
    ⟨_, so_aload_n (i := 1) (k := 1) (by decide +kernel) rfl,
    ⟨_, so_getr (ci := 1) (k := 1) (index := 18) rfl CF_1 (by decide +kernel) (fun _ _ _ => rfl) tw_175 rfl (by decide +kernel),
    ⟨_, so_iconst (n := (0)) (by decide +kernel) ⟨by decide, by decide⟩,
    ⟨_, so_aload_n (i := 0) (k := 0) (by decide +kernel) rfl,
    ⟨_, so_getr (ci := 1) (k := 1) (index := 18) rfl CF_1 (by decide +kernel) (fun _ _ _ => rfl) tw_175 rfl (by decide +kernel),
    ⟨_, so_iconst (n := (0)) (by decide +kernel) ⟨by decide, by decide⟩,
    ⟨_, so_bipush (n := (9)) (by decide +kernel) (by decide +kernel) ⟨by decide, by decide⟩,
    ⟨_, so_acopy (index := 53) rfl tw_545 tw_547 tw_546 tw_80 (by decide +kernel) (by decide +kernel),
    ⟨_, so_aload_n (i := 1) (k := 1) (by decide +kernel) rfl,
    ⟨_, so_getr (ci := 1) (k := 2) (index := 22) rfl CF_1 (by decide +kernel) (fun _ _ _ => rfl) tw_176 rfl (by decide +kernel),
    ⟨_, so_iconst (n := (0)) (by decide +kernel) ⟨by decide, by decide⟩,
    ⟨_, so_aload_n (i := 0) (k := 0) (by decide +kernel) rfl,
    ⟨_, so_getr (ci := 1) (k := 2) (index := 22) rfl CF_1 (by decide +kernel) (fun _ _ _ => rfl) tw_176 rfl (by decide +kernel),
    ⟨_, so_iconst (n := (0)) (by decide +kernel) ⟨by decide, by decide⟩,
    ⟨_, so_bipush (n := (9)) (by decide +kernel) (by decide +kernel) ⟨by decide, by decide⟩,
    ⟨_, so_acopy (index := 53) rfl tw_545 tw_547 tw_546 tw_80 (by decide +kernel) (by decide +kernel),
    ⟨_, so_aload_n (i := 1) (k := 1) (by decide +kernel) rfl,
    ⟨_, so_getr (ci := 1) (k := 3) (index := 25) rfl CF_1 (by decide +kernel) (fun _ _ _ => rfl) tw_177 rfl (by decide +kernel),
    ⟨_, so_iconst (n := (0)) (by decide +kernel) ⟨by decide, by decide⟩,
    ⟨_, so_aload_n (i := 0) (k := 0) (by decide +kernel) rfl,
    ⟨_, so_getr (ci := 1) (k := 3) (index := 25) rfl CF_1 (by decide +kernel) (fun _ _ _ => rfl) tw_177 rfl (by decide +kernel),
    ⟨_, so_iconst (n := (0)) (by decide +kernel) ⟨by decide, by decide⟩,
    ⟨_, so_bipush (n := (9)) (by decide +kernel) (by decide +kernel) ⟨by decide, by decide⟩,
    ⟨_, so_acopy (index := 53) rfl tw_545 tw_547 tw_546 tw_80 (by decide +kernel) (by decide +kernel),
    ⟨_, so_aload_n (i := 1) (k := 1) (by decide +kernel) rfl,
    ⟨_, so_getr (ci := 1) (k := 4) (index := 28) rfl CF_1 (by decide +kernel) (fun _ _ _ => rfl) tw_178 rfl (by decide +kernel),
    ⟨_, so_iconst (n := (0)) (by decide +kernel) ⟨by decide, by decide⟩,
    ⟨_, so_aload_n (i := 0) (k := 0) (by decide +kernel) rfl,
    ⟨_, so_getr (ci := 1) (k := 4) (index := 28) rfl CF_1 (by decide +kernel) (fun _ _ _ => rfl) tw_178 rfl (by decide +kernel),
    ⟨_, so_iconst (n := (0)) (by decide +kernel) ⟨by decide, by decide⟩,
    ⟨_, so_bipush (n := (9)) (by decide +kernel) (by decide +kernel) ⟨by decide, by decide⟩,
    ⟨_, so_acopy (index := 53) rfl tw_545 tw_547 tw_546 tw_80 (by decide +kernel) (by decide +kernel),
    ⟨_, so_aload_n (i := 0) (k := 0) (by decide +kernel) rfl,
    ⟨_, so_getr (ci := 1) (k := 0) (index := 12) rfl CF_1 (by decide +kernel) (fun _ _ _ => rfl) tw_167 rfl (by decide +kernel),
    ⟨_, so_aload_n (i := 1) (k := 1) (by decide +kernel) rfl,
    ⟨_, so_getr (ci := 1) (k := 0) (index := 12) rfl CF_1 (by decide +kernel) (fun _ _ _ => rfl) tw_167 rfl (by decide +kernel),
    ⟨_, so_invV (mi' := m_St_copyFrom) (ci := 7) (n := 1) (index := 59) rfl rfl tw_549 tw_550 ⟨tw_551, tw_68, ⟨by decide +kernel, by decide +kernel, by decide +kernel⟩, by decide +kernel⟩ tw_548 (by decide +kernel),
    ⟨_, so_ret (pc' := 0) rfl (by decide +kernel),
    trivial⟩⟩⟩⟩⟩⟩⟩⟩⟩⟩⟩⟩⟩⟩⟩⟩⟩⟩⟩⟩⟩⟩⟩⟩⟩⟩⟩⟩⟩⟩⟩⟩⟩⟩⟩⟩⟩⟩⟩⟩⟩⟩⟩⟩⟩⟩⟩⟩⟩⟩
  | _ + 1 => trivial
def c_Co_setPlaces : List (List Op) := [
  [op_iload 1, op_ci (2), op_iclt 1, op_iload 1, op_ci (6), op_icle 2, op_goto 1],
  [op_ci (0), op_zret],
  [op_aload 0, op_iload 1, op_puti SC 1 5, op_ci (1), op_zret]]
def t_Co_setPlaces : Nat → Nat := fun t => [0, 11, 13].getD t 0
set_option maxRecDepth 100000 in
theorem ok_Co_setPlaces : MOK SC m_Co_setPlaces c_Co_setPlaces t_Co_setPlaces := fun t => match t with
  | 0 => ⟨_, so_iload_n (i := 1) (k := 1) (by decide +kernel) rfl,
    ⟨_, so_iconst (n := (2)) (by decide +kernel) ⟨by decide, by decide⟩,
    ⟨_, so_iclt (t := 1) (off := 9) (by decide +kernel) rfl,
    ⟨_, so_iload_n (i := 1) (k := 1) (by decide +kernel) rfl,
    ⟨_, so_bipush (n := (6)) (by decide +kernel) (by decide +kernel) ⟨by decide, by decide⟩,
    ⟨_, so_icle (t := 2) (off := 5) (by decide +kernel) rfl,
    ⟨_, so_fall (pc' := 0) (t := 1) rfl,
    trivial⟩⟩⟩⟩⟩⟩⟩
  | 1 => ⟨_, so_iconst (n := (0)) (by decide +kernel) ⟨by decide, by decide⟩,
    ⟨_, so_zret (pc' := 0) rfl (by decide +kernel),
    trivial⟩⟩
  | 2 => ⟨_, so_aload_n (i := 0) (k := 0) (by decide +kernel) rfl,
    ⟨_, so_iload_n (i := 1) (k := 1) (by decide +kernel) rfl,
    ⟨_, so_puti (ci := 1) (k := 5) (index := 31) rfl CF_1 (by decide +kernel) rfl tw_179 rfl rfl (by decide +kernel),
    ⟨_, so_iconst (n := (1)) (by decide +kernel) ⟨by decide, by decide⟩,
    ⟨_, so_zret (pc' := 0) rfl (by decide +kernel),
    trivial⟩⟩⟩⟩⟩
  | _ + 3 => trivial
def c_Co_addRoad : List (List Op) := [
  [op_aload 0, op_geti SC 1 6, op_ci (9), op_iclt 1, op_ci (0), op_zret],
  [op_aload 0, op_getr SC 1 1, op_aload 0, op_geti SC 1 6, op_iload 1, op_iast SC, op_aload 0, op_getr SC 1 2, op_aload 0, op_geti SC 1 6, op_iload 2, op_iast SC, op_aload 0, op_getr SC 1 3, op_aload 0, op_geti SC 1 6, op_iload 3, op_iast SC, op_aload 0, op_getr SC 1 0, op_getr SC 7 4, op_aload 0, op_geti SC 1 6, op_iload 4, op_iast SC, op_aload 0, op_getr SC 1 0, op_getr SC 7 5, op_aload 0, op_geti SC 1 6, op_iload 5, op_iast SC, op_aload 0, op_dup, op_geti SC 1 6, op_ci (1), op_iadd, op_puti SC 1 6, op_ci (1), op_zret]]
def t_Co_addRoad : Nat → Nat := fun t => [0, 11].getD t 0
set_option maxRecDepth 100000 in
theorem ok_Co_addRoad : MOK SC m_Co_addRoad c_Co_addRoad t_Co_addRoad := fun t => match t with
  | 0 => ⟨_, so_aload_n (i := 0) (k := 0) (by decide +kernel) rfl,
    ⟨_, so_geti (ci := 1) (k := 6) (index := 35) rfl CF_1 (by decide +kernel) (fun _ _ _ => rfl) tw_180 rfl (by decide +kernel),
    ⟨_, so_bipush (n := (9)) (by decide +kernel) (by decide +kernel) ⟨by decide, by decide⟩,
    ⟨_, so_iclt (t := 1) (off := 5) (by decide +kernel) rfl,
    ⟨_, so_iconst (n := (0)) (by decide +kernel) ⟨by decide, by decide⟩,
    ⟨_, so_zret (pc' := 0) rfl (by decide +kernel),
    trivial⟩⟩⟩⟩⟩⟩
  | 1 => ⟨_, so_aload_n (i := 0) (k := 0) (by decide +kernel) rfl,
    ⟨_, so_getr (ci := 1) (k := 1) (index := 18) rfl CF_1 (by decide +kernel) (fun _ _ _ => rfl) tw_175 rfl (by decide +kernel),
    ⟨_, so_aload_n (i := 0) (k := 0) (by decide +kernel) rfl,
    ⟨_, so_geti (ci := 1) (k := 6) (index := 35) rfl CF_1 (by decide +kernel) (fun _ _ _ => rfl) tw_180 rfl (by decide +kernel),
    ⟨_, so_iload_n (i := 1) (k := 1) (by decide +kernel) rfl,
    ⟨_, so_iast rfl (by decide +kernel),
    ⟨_, so_aload_n (i := 0) (k := 0) (by decide +kernel) rfl,
    ⟨_, so_getr (ci := 1) (k := 2) (index := 22) rfl CF_1 (by decide +kernel) (fun _ _ _ => rfl) tw_176 rfl (by decide +kernel),
    ⟨_, so_aload_n (i := 0) (k := 0) (by decide +kernel) rfl,
    ⟨_, so_geti (ci := 1) (k := 6) (index := 35) rfl CF_1 (by decide +kernel) (fun _ _ _ => rfl) tw_180 rfl (by decide +kernel),
    ⟨_, so_iload_n (i := 2) (k := 2) (by decide +kernel) rfl,
    ⟨_, so_iast rfl (by decide +kernel),
    ⟨_, so_aload_n (i := 0) (k := 0) (by decide +kernel) rfl,
    ⟨_, so_getr (ci := 1) (k := 3) (index := 25) rfl CF_1 (by decide +kernel) (fun _ _ _ => rfl) tw_177 rfl (by decide +kernel),
    ⟨_, so_aload_n (i := 0) (k := 0) (by decide +kernel) rfl,
    ⟨_, so_geti (ci := 1) (k := 6) (index := 35) rfl CF_1 (by decide +kernel) (fun _ _ _ => rfl) tw_180 rfl (by decide +kernel),
    ⟨_, so_iload_n (i := 3) (k := 3) (by decide +kernel) rfl,
    ⟨_, so_iast rfl (by decide +kernel),
    ⟨_, so_aload_n (i := 0) (k := 0) (by decide +kernel) rfl,
    ⟨_, so_getr (ci := 1) (k := 0) (index := 12) rfl CF_1 (by decide +kernel) (fun _ _ _ => rfl) tw_167 rfl (by decide +kernel),
    ⟨_, so_getrN (ci := 7) (k := 4) (index := 63) rfl CF_7 (by decide +kernel) (fun _ _ _ => rfl) tw_146 rfl (by decide +kernel),
    ⟨_, so_aload_n (i := 0) (k := 0) (by decide +kernel) rfl,
    ⟨_, so_geti (ci := 1) (k := 6) (index := 35) rfl CF_1 (by decide +kernel) (fun _ _ _ => rfl) tw_180 rfl (by decide +kernel),
    ⟨_, so_iload (i := 4) (by decide +kernel),
    ⟨_, so_iast rfl (by decide +kernel),
    ⟨_, so_aload_n (i := 0) (k := 0) (by decide +kernel) rfl,
    ⟨_, so_getr (ci := 1) (k := 0) (index := 12) rfl CF_1 (by decide +kernel) (fun _ _ _ => rfl) tw_167 rfl (by decide +kernel),
    ⟨_, so_getrN (ci := 7) (k := 5) (index := 66) rfl CF_7 (by decide +kernel) (fun _ _ _ => rfl) tw_150 rfl (by decide +kernel),
    ⟨_, so_aload_n (i := 0) (k := 0) (by decide +kernel) rfl,
    ⟨_, so_geti (ci := 1) (k := 6) (index := 35) rfl CF_1 (by decide +kernel) (fun _ _ _ => rfl) tw_180 rfl (by decide +kernel),
    ⟨_, so_iload (i := 5) (by decide +kernel),
    ⟨_, so_iast rfl (by decide +kernel),
    ⟨_, so_aload_n (i := 0) (k := 0) (by decide +kernel) rfl,
    ⟨_, so_dup (by decide +kernel),
    ⟨_, so_geti (ci := 1) (k := 6) (index := 35) rfl CF_1 (by decide +kernel) (fun _ _ _ => rfl) tw_180 rfl (by decide +kernel),
    ⟨_, so_iconst (n := (1)) (by decide +kernel) ⟨by decide, by decide⟩,
    ⟨_, so_iadd (by decide +kernel),
    ⟨_, so_puti (ci := 1) (k := 6) (index := 35) rfl CF_1 (by decide +kernel) rfl tw_180 rfl rfl (by decide +kernel),
    ⟨_, so_iconst (n := (1)) (by decide +kernel) ⟨by decide, by decide⟩,
    ⟨_, so_zret (pc' := 0) rfl (by decide +kernel),
    trivial⟩⟩⟩⟩⟩⟩⟩⟩⟩⟩⟩⟩⟩⟩⟩⟩⟩⟩⟩⟩⟩⟩⟩⟩⟩⟩⟩⟩⟩⟩⟩⟩⟩⟩⟩⟩⟩⟩⟩⟩
  | _ + 2 => trivial
def c_Co_addStep : List (List Op) := [
  [op_aload 0, op_geti SC 1 7, op_ci (9), op_icge 1, op_aload 0, op_iload 1, op_invV SC m_Co_hasRoad 1 1, op_ifne 2, op_goto 1],
  [op_ci (0), op_zret],
  [op_aload 0, op_getr SC 1 4, op_aload 0, op_geti SC 1 7, op_iload 1, op_iast SC, op_aload 0, op_dup, op_geti SC 1 7, op_ci (1), op_iadd, op_puti SC 1 7, op_ci (1), op_zret]]
def t_Co_addStep : Nat → Nat := fun t => [0, 17, 19].getD t 0
set_option maxRecDepth 100000 in
theorem ok_Co_addStep : MOK SC m_Co_addStep c_Co_addStep t_Co_addStep := fun t => match t with
  | 0 => ⟨_, so_aload_n (i := 0) (k := 0) (by decide +kernel) rfl,
    ⟨_, so_geti (ci := 1) (k := 7) (index := 38) rfl CF_1 (by decide +kernel) (fun _ _ _ => rfl) tw_181 rfl (by decide +kernel),
    ⟨_, so_bipush (n := (9)) (by decide +kernel) (by decide +kernel) ⟨by decide, by decide⟩,
    ⟨_, so_icge (t := 1) (off := 11) (by decide +kernel) rfl,
    ⟨_, so_aload_n (i := 0) (k := 0) (by decide +kernel) rfl,
    ⟨_, so_iload_n (i := 1) (k := 1) (by decide +kernel) rfl,
    ⟨_, so_invV (mi' := m_Co_hasRoad) (ci := 1) (n := 1) (index := 69) rfl rfl tw_538 tw_539 ⟨tw_540, tw_67, ⟨by decide +kernel, by decide +kernel, by decide +kernel⟩, by decide +kernel⟩ tw_537 (by decide +kernel),
    ⟨_, so_ifne (t := 2) (off := 5) (by decide +kernel) rfl,
    ⟨_, so_fall (pc' := 0) (t := 1) rfl,
    trivial⟩⟩⟩⟩⟩⟩⟩⟩⟩
  | 1 => ⟨_, so_iconst (n := (0)) (by decide +kernel) ⟨by decide, by decide⟩,
    ⟨_, so_zret (pc' := 0) rfl (by decide +kernel),
    trivial⟩⟩
  | 2 => ⟨_, so_aload_n (i := 0) (k := 0) (by decide +kernel) rfl,
    ⟨_, so_getr (ci := 1) (k := 4) (index := 28) rfl CF_1 (by decide +kernel) (fun _ _ _ => rfl) tw_178 rfl (by decide +kernel),
    ⟨_, so_aload_n (i := 0) (k := 0) (by decide +kernel) rfl,
    ⟨_, so_geti (ci := 1) (k := 7) (index := 38) rfl CF_1 (by decide +kernel) (fun _ _ _ => rfl) tw_181 rfl (by decide +kernel),
    ⟨_, so_iload_n (i := 1) (k := 1) (by decide +kernel) rfl,
    ⟨_, so_iast rfl (by decide +kernel),
    ⟨_, so_aload_n (i := 0) (k := 0) (by decide +kernel) rfl,
    ⟨_, so_dup (by decide +kernel),
    ⟨_, so_geti (ci := 1) (k := 7) (index := 38) rfl CF_1 (by decide +kernel) (fun _ _ _ => rfl) tw_181 rfl (by decide +kernel),
    ⟨_, so_iconst (n := (1)) (by decide +kernel) ⟨by decide, by decide⟩,
    ⟨_, so_iadd (by decide +kernel),
    ⟨_, so_puti (ci := 1) (k := 7) (index := 38) rfl CF_1 (by decide +kernel) rfl tw_181 rfl rfl (by decide +kernel),
    ⟨_, so_iconst (n := (1)) (by decide +kernel) ⟨by decide, by decide⟩,
    ⟨_, so_zret (pc' := 0) rfl (by decide +kernel),
    trivial⟩⟩⟩⟩⟩⟩⟩⟩⟩⟩⟩⟩⟩⟩
  | _ + 3 => trivial
def c_Co_places : List (List Op) := [
  [op_aload 0, op_geti SC 1 5, op_iret]]
def t_Co_places : Nat → Nat := fun t => [0].getD t 0
set_option maxRecDepth 100000 in
theorem ok_Co_places : MOK SC m_Co_places c_Co_places t_Co_places := fun t => match t with
  | 0 => ⟨_, so_aload_n (i := 0) (k := 0) (by decide +kernel) rfl,
    ⟨_, so_geti (ci := 1) (k := 5) (index := 31) rfl CF_1 (by decide +kernel) (fun _ _ _ => rfl) tw_179 rfl (by decide +kernel),
    ⟨_, so_iret (pc' := 0) rfl (by decide +kernel),
    trivial⟩⟩⟩
  | _ + 1 => trivial
def c_Co_roads : List (List Op) := [
  [op_aload 0, op_geti SC 1 6, op_iret]]
def t_Co_roads : Nat → Nat := fun t => [0].getD t 0
set_option maxRecDepth 100000 in
theorem ok_Co_roads : MOK SC m_Co_roads c_Co_roads t_Co_roads := fun t => match t with
  | 0 => ⟨_, so_aload_n (i := 0) (k := 0) (by decide +kernel) rfl,
    ⟨_, so_geti (ci := 1) (k := 6) (index := 35) rfl CF_1 (by decide +kernel) (fun _ _ _ => rfl) tw_180 rfl (by decide +kernel),
    ⟨_, so_iret (pc' := 0) rfl (by decide +kernel),
    trivial⟩⟩⟩
  | _ + 1 => trivial
def c_Co_steps : List (List Op) := [
  [op_aload 0, op_geti SC 1 7, op_iret]]
def t_Co_steps : Nat → Nat := fun t => [0].getD t 0
set_option maxRecDepth 100000 in
theorem ok_Co_steps : MOK SC m_Co_steps c_Co_steps t_Co_steps := fun t => match t with
  | 0 => ⟨_, so_aload_n (i := 0) (k := 0) (by decide +kernel) rfl,
    ⟨_, so_geti (ci := 1) (k := 7) (index := 38) rfl CF_1 (by decide +kernel) (fun _ _ _ => rfl) tw_181 rfl (by decide +kernel),
    ⟨_, so_iret (pc' := 0) rfl (by decide +kernel),
    trivial⟩⟩⟩
  | _ + 1 => trivial
def c_Co_planned : List (List Op) := [
  [op_iload 1, op_iflt 1, op_iload 1, op_aload 0, op_geti SC 1 7, op_icge 1, op_aload 0, op_getr SC 1 4, op_iload 1, op_iald SC, op_goto 2],
  [op_ci (-4), op_goto 2],
  [op_iret]]
def t_Co_planned : Nat → Nat := fun t => [0, 21, 23].getD t 0
set_option maxRecDepth 100000 in
theorem ok_Co_planned : MOK SC m_Co_planned c_Co_planned t_Co_planned := fun t => match t with
  | 0 => ⟨_, so_iload_n (i := 1) (k := 1) (by decide +kernel) rfl,
    ⟨_, so_iflt (t := 1) (off := 20) (by decide +kernel) rfl,
    ⟨_, so_iload_n (i := 1) (k := 1) (by decide +kernel) rfl,
    ⟨_, so_aload_n (i := 0) (k := 0) (by decide +kernel) rfl,
    ⟨_, so_geti (ci := 1) (k := 7) (index := 38) rfl CF_1 (by decide +kernel) (fun _ _ _ => rfl) tw_181 rfl (by decide +kernel),
    ⟨_, so_icge (t := 1) (off := 12) (by decide +kernel) rfl,
    ⟨_, so_aload_n (i := 0) (k := 0) (by decide +kernel) rfl,
    ⟨_, so_getr (ci := 1) (k := 4) (index := 28) rfl CF_1 (by decide +kernel) (fun _ _ _ => rfl) tw_178 rfl (by decide +kernel),
    ⟨_, so_iload_n (i := 1) (k := 1) (by decide +kernel) rfl,
    ⟨_, so_iald rfl (by decide +kernel),
    ⟨_, so_goto (pc' := 0) (t := 2) (off := 5) (by decide +kernel) rfl,
    trivial⟩⟩⟩⟩⟩⟩⟩⟩⟩⟩⟩
  | 1 => ⟨_, so_bipush (n := (-4)) (by decide +kernel) (by decide +kernel) ⟨by decide, by decide⟩,
    ⟨_, so_fall (pc' := 0) (t := 2) rfl,
    trivial⟩⟩
  | 2 => ⟨_, so_iret (pc' := 0) rfl (by decide +kernel),
    trivial⟩
  | _ + 3 => trivial
def c_Co_kindOf : List (List Op) := [
  [op_iload 1, op_iflt 1, op_iload 1, op_aload 0, op_geti SC 1 6, op_icge 1, op_aload 0, op_getr SC 1 1, op_iload 1, op_iald SC, op_goto 2],
  [op_ci (-4), op_goto 2],
  [op_iret]]
def t_Co_kindOf : Nat → Nat := fun t => [0, 21, 23].getD t 0
set_option maxRecDepth 100000 in
theorem ok_Co_kindOf : MOK SC m_Co_kindOf c_Co_kindOf t_Co_kindOf := fun t => match t with
  | 0 => ⟨_, so_iload_n (i := 1) (k := 1) (by decide +kernel) rfl,
    ⟨_, so_iflt (t := 1) (off := 20) (by decide +kernel) rfl,
    ⟨_, so_iload_n (i := 1) (k := 1) (by decide +kernel) rfl,
    ⟨_, so_aload_n (i := 0) (k := 0) (by decide +kernel) rfl,
    ⟨_, so_geti (ci := 1) (k := 6) (index := 35) rfl CF_1 (by decide +kernel) (fun _ _ _ => rfl) tw_180 rfl (by decide +kernel),
    ⟨_, so_icge (t := 1) (off := 12) (by decide +kernel) rfl,
    ⟨_, so_aload_n (i := 0) (k := 0) (by decide +kernel) rfl,
    ⟨_, so_getr (ci := 1) (k := 1) (index := 18) rfl CF_1 (by decide +kernel) (fun _ _ _ => rfl) tw_175 rfl (by decide +kernel),
    ⟨_, so_iload_n (i := 1) (k := 1) (by decide +kernel) rfl,
    ⟨_, so_iald rfl (by decide +kernel),
    ⟨_, so_goto (pc' := 0) (t := 2) (off := 5) (by decide +kernel) rfl,
    trivial⟩⟩⟩⟩⟩⟩⟩⟩⟩⟩⟩
  | 1 => ⟨_, so_bipush (n := (-4)) (by decide +kernel) (by decide +kernel) ⟨by decide, by decide⟩,
    ⟨_, so_fall (pc' := 0) (t := 2) rfl,
    trivial⟩⟩
  | 2 => ⟨_, so_iret (pc' := 0) rfl (by decide +kernel),
    trivial⟩
  | _ + 3 => trivial
def c_Co_startOf : List (List Op) := [
  [op_iload 1, op_iflt 1, op_iload 1, op_aload 0, op_geti SC 1 6, op_icge 1, op_aload 0, op_getr SC 1 2, op_iload 1, op_iald SC, op_goto 2],
  [op_ci (-4), op_goto 2],
  [op_iret]]
def t_Co_startOf : Nat → Nat := fun t => [0, 21, 23].getD t 0
set_option maxRecDepth 100000 in
theorem ok_Co_startOf : MOK SC m_Co_startOf c_Co_startOf t_Co_startOf := fun t => match t with
  | 0 => ⟨_, so_iload_n (i := 1) (k := 1) (by decide +kernel) rfl,
    ⟨_, so_iflt (t := 1) (off := 20) (by decide +kernel) rfl,
    ⟨_, so_iload_n (i := 1) (k := 1) (by decide +kernel) rfl,
    ⟨_, so_aload_n (i := 0) (k := 0) (by decide +kernel) rfl,
    ⟨_, so_geti (ci := 1) (k := 6) (index := 35) rfl CF_1 (by decide +kernel) (fun _ _ _ => rfl) tw_180 rfl (by decide +kernel),
    ⟨_, so_icge (t := 1) (off := 12) (by decide +kernel) rfl,
    ⟨_, so_aload_n (i := 0) (k := 0) (by decide +kernel) rfl,
    ⟨_, so_getr (ci := 1) (k := 2) (index := 22) rfl CF_1 (by decide +kernel) (fun _ _ _ => rfl) tw_176 rfl (by decide +kernel),
    ⟨_, so_iload_n (i := 1) (k := 1) (by decide +kernel) rfl,
    ⟨_, so_iald rfl (by decide +kernel),
    ⟨_, so_goto (pc' := 0) (t := 2) (off := 5) (by decide +kernel) rfl,
    trivial⟩⟩⟩⟩⟩⟩⟩⟩⟩⟩⟩
  | 1 => ⟨_, so_bipush (n := (-4)) (by decide +kernel) (by decide +kernel) ⟨by decide, by decide⟩,
    ⟨_, so_fall (pc' := 0) (t := 2) rfl,
    trivial⟩⟩
  | 2 => ⟨_, so_iret (pc' := 0) rfl (by decide +kernel),
    trivial⟩
  | _ + 3 => trivial
def c_Co_endOf : List (List Op) := [
  [op_iload 1, op_iflt 1, op_iload 1, op_aload 0, op_geti SC 1 6, op_icge 1, op_aload 0, op_getr SC 1 3, op_iload 1, op_iald SC, op_goto 2],
  [op_ci (-4), op_goto 2],
  [op_iret]]
def t_Co_endOf : Nat → Nat := fun t => [0, 21, 23].getD t 0
set_option maxRecDepth 100000 in
theorem ok_Co_endOf : MOK SC m_Co_endOf c_Co_endOf t_Co_endOf := fun t => match t with
  | 0 => ⟨_, so_iload_n (i := 1) (k := 1) (by decide +kernel) rfl,
    ⟨_, so_iflt (t := 1) (off := 20) (by decide +kernel) rfl,
    ⟨_, so_iload_n (i := 1) (k := 1) (by decide +kernel) rfl,
    ⟨_, so_aload_n (i := 0) (k := 0) (by decide +kernel) rfl,
    ⟨_, so_geti (ci := 1) (k := 6) (index := 35) rfl CF_1 (by decide +kernel) (fun _ _ _ => rfl) tw_180 rfl (by decide +kernel),
    ⟨_, so_icge (t := 1) (off := 12) (by decide +kernel) rfl,
    ⟨_, so_aload_n (i := 0) (k := 0) (by decide +kernel) rfl,
    ⟨_, so_getr (ci := 1) (k := 3) (index := 25) rfl CF_1 (by decide +kernel) (fun _ _ _ => rfl) tw_177 rfl (by decide +kernel),
    ⟨_, so_iload_n (i := 1) (k := 1) (by decide +kernel) rfl,
    ⟨_, so_iald rfl (by decide +kernel),
    ⟨_, so_goto (pc' := 0) (t := 2) (off := 5) (by decide +kernel) rfl,
    trivial⟩⟩⟩⟩⟩⟩⟩⟩⟩⟩⟩
  | 1 => ⟨_, so_bipush (n := (-4)) (by decide +kernel) (by decide +kernel) ⟨by decide, by decide⟩,
    ⟨_, so_fall (pc' := 0) (t := 2) rfl,
    trivial⟩⟩
  | 2 => ⟨_, so_iret (pc' := 0) rfl (by decide +kernel),
    trivial⟩
  | _ + 3 => trivial
def c_Co_hasPlace : List (List Op) := [
  [op_iload 1, op_iflt 1, op_iload 1, op_aload 0, op_geti SC 1 5, op_icge 1, op_ci (1), op_goto 2],
  [op_ci (0), op_goto 2],
  [op_zret]]
def t_Co_hasPlace : Nat → Nat := fun t => [0, 16, 17].getD t 0
set_option maxRecDepth 100000 in
theorem ok_Co_hasPlace : MOK SC m_Co_hasPlace c_Co_hasPlace t_Co_hasPlace := fun t => match t with
  | 0 => ⟨_, so_iload_n (i := 1) (k := 1) (by decide +kernel) rfl,
    ⟨_, so_iflt (t := 1) (off := 15) (by decide +kernel) rfl,
    ⟨_, so_iload_n (i := 1) (k := 1) (by decide +kernel) rfl,
    ⟨_, so_aload_n (i := 0) (k := 0) (by decide +kernel) rfl,
    ⟨_, so_geti (ci := 1) (k := 5) (index := 31) rfl CF_1 (by decide +kernel) (fun _ _ _ => rfl) tw_179 rfl (by decide +kernel),
    ⟨_, so_icge (t := 1) (off := 7) (by decide +kernel) rfl,
    ⟨_, so_iconst (n := (1)) (by decide +kernel) ⟨by decide, by decide⟩,
    ⟨_, so_goto (pc' := 0) (t := 2) (off := 4) (by decide +kernel) rfl,
    trivial⟩⟩⟩⟩⟩⟩⟩⟩
  | 1 => ⟨_, so_iconst (n := (0)) (by decide +kernel) ⟨by decide, by decide⟩,
    ⟨_, so_fall (pc' := 0) (t := 2) rfl,
    trivial⟩⟩
  | 2 => ⟨_, so_zret (pc' := 0) rfl (by decide +kernel),
    trivial⟩
  | _ + 3 => trivial
def c_Co_hasRoad : List (List Op) := [
  [op_iload 1, op_iflt 1, op_iload 1, op_aload 0, op_geti SC 1 6, op_icge 1, op_ci (1), op_goto 2],
  [op_ci (0), op_goto 2],
  [op_zret]]
def t_Co_hasRoad : Nat → Nat := fun t => [0, 16, 17].getD t 0
set_option maxRecDepth 100000 in
theorem ok_Co_hasRoad : MOK SC m_Co_hasRoad c_Co_hasRoad t_Co_hasRoad := fun t => match t with
  | 0 => ⟨_, so_iload_n (i := 1) (k := 1) (by decide +kernel) rfl,
    ⟨_, so_iflt (t := 1) (off := 15) (by decide +kernel) rfl,
    ⟨_, so_iload_n (i := 1) (k := 1) (by decide +kernel) rfl,
    ⟨_, so_aload_n (i := 0) (k := 0) (by decide +kernel) rfl,
    ⟨_, so_geti (ci := 1) (k := 6) (index := 35) rfl CF_1 (by decide +kernel) (fun _ _ _ => rfl) tw_180 rfl (by decide +kernel),
    ⟨_, so_icge (t := 1) (off := 7) (by decide +kernel) rfl,
    ⟨_, so_iconst (n := (1)) (by decide +kernel) ⟨by decide, by decide⟩,
    ⟨_, so_goto (pc' := 0) (t := 2) (off := 4) (by decide +kernel) rfl,
    trivial⟩⟩⟩⟩⟩⟩⟩⟩
  | 1 => ⟨_, so_iconst (n := (0)) (by decide +kernel) ⟨by decide, by decide⟩,
    ⟨_, so_fall (pc' := 0) (t := 2) rfl,
    trivial⟩⟩
  | 2 => ⟨_, so_zret (pc' := 0) rfl (by decide +kernel),
    trivial⟩
  | _ + 3 => trivial
def c_Co_leadsOn : List (List Op) := [
  [op_aload 0, op_iload 1, op_invV SC m_Co_hasRoad 1 1, op_ifeq 2, op_aload 0, op_getr SC 1 2, op_iload 1, op_iald SC, op_iload 2, op_iceq 1, op_aload 0, op_getr SC 1 3, op_iload 1, op_iald SC, op_iload 2, op_icne 2, op_goto 1],
  [op_ci (1), op_goto 3],
  [op_ci (0), op_goto 3],
  [op_zret]]
def t_Co_leadsOn : Nat → Nat := fun t => [0, 28, 32, 33].getD t 0
set_option maxRecDepth 100000 in
theorem ok_Co_leadsOn : MOK SC m_Co_leadsOn c_Co_leadsOn t_Co_leadsOn := fun t => match t with
  | 0 => ⟨_, so_aload_n (i := 0) (k := 0) (by decide +kernel) rfl,
    ⟨_, so_iload_n (i := 1) (k := 1) (by decide +kernel) rfl,
    ⟨_, so_invV (mi' := m_Co_hasRoad) (ci := 1) (n := 1) (index := 69) rfl rfl tw_538 tw_539 ⟨tw_540, tw_67, ⟨by decide +kernel, by decide +kernel, by decide +kernel⟩, by decide +kernel⟩ tw_537 (by decide +kernel),
    ⟨_, so_ifeq (t := 2) (off := 27) (by decide +kernel) rfl,
    ⟨_, so_aload_n (i := 0) (k := 0) (by decide +kernel) rfl,
    ⟨_, so_getr (ci := 1) (k := 2) (index := 22) rfl CF_1 (by decide +kernel) (fun _ _ _ => rfl) tw_176 rfl (by decide +kernel),
    ⟨_, so_iload_n (i := 1) (k := 1) (by decide +kernel) rfl,
    ⟨_, so_iald rfl (by decide +kernel),
    ⟨_, so_iload_n (i := 2) (k := 2) (by decide +kernel) rfl,
    ⟨_, so_iceq (t := 1) (off := 13) (by decide +kernel) rfl,
    ⟨_, so_aload_n (i := 0) (k := 0) (by decide +kernel) rfl,
    ⟨_, so_getr (ci := 1) (k := 3) (index := 25) rfl CF_1 (by decide +kernel) (fun _ _ _ => rfl) tw_177 rfl (by decide +kernel),
    ⟨_, so_iload_n (i := 1) (k := 1) (by decide +kernel) rfl,
    ⟨_, so_iald rfl (by decide +kernel),
    ⟨_, so_iload_n (i := 2) (k := 2) (by decide +kernel) rfl,
    ⟨_, so_icne (t := 2) (off := 7) (by decide +kernel) rfl,
    ⟨_, so_fall (pc' := 0) (t := 1) rfl,
    trivial⟩⟩⟩⟩⟩⟩⟩⟩⟩⟩⟩⟩⟩⟩⟩⟩⟩
  | 1 => ⟨_, so_iconst (n := (1)) (by decide +kernel) ⟨by decide, by decide⟩,
    ⟨_, so_goto (pc' := 0) (t := 3) (off := 4) (by decide +kernel) rfl,
    trivial⟩⟩
  | 2 => ⟨_, so_iconst (n := (0)) (by decide +kernel) ⟨by decide, by decide⟩,
    ⟨_, so_fall (pc' := 0) (t := 3) rfl,
    trivial⟩⟩
  | 3 => ⟨_, so_zret (pc' := 0) rfl (by decide +kernel),
    trivial⟩
  | _ + 4 => trivial
def c_Co_canBeCrossed : List (List Op) := [
  [op_aload 0, op_iload 1, op_iload 2, op_invV SC m_Co_leadsOn 1 2, op_ifeq 1, op_aload 0, op_getr SC 1 0, op_iload 1, op_invV SC m_St_isShut 7 1, op_ifne 1, op_ci (1), op_goto 2],
  [op_ci (0), op_goto 2],
  [op_zret]]
def t_Co_canBeCrossed : Nat → Nat := fun t => [0, 24, 25].getD t 0
set_option maxRecDepth 100000 in
theorem ok_Co_canBeCrossed : MOK SC m_Co_canBeCrossed c_Co_canBeCrossed t_Co_canBeCrossed := fun t => match t with
  | 0 => ⟨_, so_aload_n (i := 0) (k := 0) (by decide +kernel) rfl,
    ⟨_, so_iload_n (i := 1) (k := 1) (by decide +kernel) rfl,
    ⟨_, so_iload_n (i := 2) (k := 2) (by decide +kernel) rfl,
    ⟨_, so_invV (mi' := m_Co_leadsOn) (ci := 1) (n := 2) (index := 73) rfl rfl tw_662 tw_663 ⟨tw_664, tw_67, ⟨by decide +kernel, by decide +kernel, by decide +kernel⟩, by decide +kernel⟩ tw_661 (by decide +kernel),
    ⟨_, so_ifeq (t := 1) (off := 18) (by decide +kernel) rfl,
    ⟨_, so_aload_n (i := 0) (k := 0) (by decide +kernel) rfl,
    ⟨_, so_getr (ci := 1) (k := 0) (index := 12) rfl CF_1 (by decide +kernel) (fun _ _ _ => rfl) tw_167 rfl (by decide +kernel),
    ⟨_, so_iload_n (i := 1) (k := 1) (by decide +kernel) rfl,
    ⟨_, so_invV (mi' := m_St_isShut) (ci := 7) (n := 1) (index := 77) rfl rfl tw_638 tw_639 ⟨tw_640, tw_68, ⟨by decide +kernel, by decide +kernel, by decide +kernel⟩, by decide +kernel⟩ tw_665 (by decide +kernel),
    ⟨_, so_ifne (t := 1) (off := 7) (by decide +kernel) rfl,
    ⟨_, so_iconst (n := (1)) (by decide +kernel) ⟨by decide, by decide⟩,
    ⟨_, so_goto (pc' := 0) (t := 2) (off := 4) (by decide +kernel) rfl,
    trivial⟩⟩⟩⟩⟩⟩⟩⟩⟩⟩⟩⟩
  | 1 => ⟨_, so_iconst (n := (0)) (by decide +kernel) ⟨by decide, by decide⟩,
    ⟨_, so_fall (pc' := 0) (t := 2) rfl,
    trivial⟩⟩
  | 2 => ⟨_, so_zret (pc' := 0) rfl (by decide +kernel),
    trivial⟩
  | _ + 3 => trivial
def c_Co_otherEnd : List (List Op) := [
  [op_aload 0, op_iload 1, op_invV SC m_Co_hasRoad 1 1, op_ifne 1, op_ci (-4), op_iret],
  [op_aload 0, op_getr SC 1 2, op_iload 1, op_iald SC, op_iload 2, op_icne 2, op_aload 0, op_getr SC 1 3, op_iload 1, op_iald SC, op_goto 3],
  [op_aload 0, op_getr SC 1 2, op_iload 1, op_iald SC, op_goto 3],
  [op_iret]]
def t_Co_otherEnd : Nat → Nat := fun t => [0, 11, 30, 36].getD t 0
set_option maxRecDepth 100000 in
theorem ok_Co_otherEnd : MOK SC m_Co_otherEnd c_Co_otherEnd t_Co_otherEnd := fun t => match t with
  | 0 => ⟨_, so_aload_n (i := 0) (k := 0) (by decide +kernel) rfl,
    ⟨_, so_iload_n (i := 1) (k := 1) (by decide +kernel) rfl,
    ⟨_, so_invV (mi' := m_Co_hasRoad) (ci := 1) (n := 1) (index := 69) rfl rfl tw_538 tw_539 ⟨tw_540, tw_67, ⟨by decide +kernel, by decide +kernel, by decide +kernel⟩, by decide +kernel⟩ tw_537 (by decide +kernel),
    ⟨_, so_ifne (t := 1) (off := 6) (by decide +kernel) rfl,
    ⟨_, so_bipush (n := (-4)) (by decide +kernel) (by decide +kernel) ⟨by decide, by decide⟩,
    ⟨_, so_iret (pc' := 0) rfl (by decide +kernel),
    trivial⟩⟩⟩⟩⟩⟩
  | 1 => ⟨_, so_aload_n (i := 0) (k := 0) (by decide +kernel) rfl,
    ⟨_, so_getr (ci := 1) (k := 2) (index := 22) rfl CF_1 (by decide +kernel) (fun _ _ _ => rfl) tw_176 rfl (by decide +kernel),
    ⟨_, so_iload_n (i := 1) (k := 1) (by decide +kernel) rfl,
    ⟨_, so_iald rfl (by decide +kernel),
    ⟨_, so_iload_n (i := 2) (k := 2) (by decide +kernel) rfl,
    ⟨_, so_icne (t := 2) (off := 12) (by decide +kernel) rfl,
    ⟨_, so_aload_n (i := 0) (k := 0) (by decide +kernel) rfl,
    ⟨_, so_getr (ci := 1) (k := 3) (index := 25) rfl CF_1 (by decide +kernel) (fun _ _ _ => rfl) tw_177 rfl (by decide +kernel),
    ⟨_, so_iload_n (i := 1) (k := 1) (by decide +kernel) rfl,
    ⟨_, so_iald rfl (by decide +kernel),
    ⟨_, so_goto (pc' := 0) (t := 3) (off := 9) (by decide +kernel) rfl,
    trivial⟩⟩⟩⟩⟩⟩⟩⟩⟩⟩⟩
  | 2 => ⟨_, so_aload_n (i := 0) (k := 0) (by decide +kernel) rfl,
    ⟨_, so_getr (ci := 1) (k := 2) (index := 22) rfl CF_1 (by decide +kernel) (fun _ _ _ => rfl) tw_176 rfl (by decide +kernel),
    ⟨_, so_iload_n (i := 1) (k := 1) (by decide +kernel) rfl,
    ⟨_, so_iald rfl (by decide +kernel),
    ⟨_, so_fall (pc' := 0) (t := 3) rfl,
    trivial⟩⟩⟩⟩⟩
  | 3 => ⟨_, so_iret (pc' := 0) rfl (by decide +kernel),
    trivial⟩
  | _ + 4 => trivial
def c_Co_figureFrom : List (List Op) := [
  [op_iload 1, op_iflt 1, op_iload 1, op_aload 0, op_geti SC 1 6, op_iclt 2, op_goto 1],
  [op_ci (20), op_iret],
  [op_aload 0, op_getr SC 1 2, op_iload 1, op_iald SC, op_iload 2, op_icne 3, op_aload 0, op_getr SC 1 0, op_getr SC 7 4, op_iload 1, op_iald SC, op_goto 4],
  [op_aload 0, op_getr SC 1 0, op_getr SC 7 5, op_iload 1, op_iald SC, op_goto 4],
  [op_iret]]
def t_Co_figureFrom : Nat → Nat := fun t => [0, 12, 15, 37, 46].getD t 0
set_option maxRecDepth 100000 in
theorem ok_Co_figureFrom : MOK SC m_Co_figureFrom c_Co_figureFrom t_Co_figureFrom := fun t => match t with
  | 0 => ⟨_, so_iload_n (i := 1) (k := 1) (by decide +kernel) rfl,
    ⟨_, so_iflt (t := 1) (off := 11) (by decide +kernel) rfl,
    ⟨_, so_iload_n (i := 1) (k := 1) (by decide +kernel) rfl,
    ⟨_, so_aload_n (i := 0) (k := 0) (by decide +kernel) rfl,
    ⟨_, so_geti (ci := 1) (k := 6) (index := 35) rfl CF_1 (by decide +kernel) (fun _ _ _ => rfl) tw_180 rfl (by decide +kernel),
    ⟨_, so_iclt (t := 2) (off := 6) (by decide +kernel) rfl,
    ⟨_, so_fall (pc' := 0) (t := 1) rfl,
    trivial⟩⟩⟩⟩⟩⟩⟩
  | 1 => ⟨_, so_bipush (n := (20)) (by decide +kernel) (by decide +kernel) ⟨by decide, by decide⟩,
    ⟨_, so_iret (pc' := 0) rfl (by decide +kernel),
    trivial⟩⟩
  | 2 => ⟨_, so_aload_n (i := 0) (k := 0) (by decide +kernel) rfl,
    ⟨_, so_getr (ci := 1) (k := 2) (index := 22) rfl CF_1 (by decide +kernel) (fun _ _ _ => rfl) tw_176 rfl (by decide +kernel),
    ⟨_, so_iload_n (i := 1) (k := 1) (by decide +kernel) rfl,
    ⟨_, so_iald rfl (by decide +kernel),
    ⟨_, so_iload_n (i := 2) (k := 2) (by decide +kernel) rfl,
    ⟨_, so_icne (t := 3) (off := 15) (by decide +kernel) rfl,
    ⟨_, so_aload_n (i := 0) (k := 0) (by decide +kernel) rfl,
    ⟨_, so_getr (ci := 1) (k := 0) (index := 12) rfl CF_1 (by decide +kernel) (fun _ _ _ => rfl) tw_167 rfl (by decide +kernel),
    ⟨_, so_getrN (ci := 7) (k := 4) (index := 63) rfl CF_7 (by decide +kernel) (fun _ _ _ => rfl) tw_146 rfl (by decide +kernel),
    ⟨_, so_iload_n (i := 1) (k := 1) (by decide +kernel) rfl,
    ⟨_, so_iald rfl (by decide +kernel),
    ⟨_, so_goto (pc' := 0) (t := 4) (off := 12) (by decide +kernel) rfl,
    trivial⟩⟩⟩⟩⟩⟩⟩⟩⟩⟩⟩⟩
  | 3 => ⟨_, so_aload_n (i := 0) (k := 0) (by decide +kernel) rfl,
    ⟨_, so_getr (ci := 1) (k := 0) (index := 12) rfl CF_1 (by decide +kernel) (fun _ _ _ => rfl) tw_167 rfl (by decide +kernel),
    ⟨_, so_getrN (ci := 7) (k := 5) (index := 66) rfl CF_7 (by decide +kernel) (fun _ _ _ => rfl) tw_150 rfl (by decide +kernel),
    ⟨_, so_iload_n (i := 1) (k := 1) (by decide +kernel) rfl,
    ⟨_, so_iald rfl (by decide +kernel),
    ⟨_, so_fall (pc' := 0) (t := 4) rfl,
    trivial⟩⟩⟩⟩⟩⟩
  | 4 => ⟨_, so_iret (pc' := 0) rfl (by decide +kernel),
    trivial⟩
  | _ + 5 => trivial
def c_Co_changeFrom : List (List Op) := [
  [op_aload 0, op_iload 1, op_iload 2, op_invV SC m_Co_figureFrom 1 2, op_ci (20), op_isub, op_istore 3, op_aload 0, op_iload 1, op_invV SC m_Co_hasRoad 1 1, op_ifeq 1, op_aload 0, op_getr SC 1 1, op_iload 1, op_iald SC, op_ci (3), op_icne 1, op_ci (2), op_iload 3, op_imul, op_goto 2],
  [op_iload 3, op_goto 2],
  [op_iret]]
def t_Co_changeFrom : Nat → Nat := fun t => [0, 34, 35].getD t 0
set_option maxRecDepth 100000 in
theorem ok_Co_changeFrom : MOK SC m_Co_changeFrom c_Co_changeFrom t_Co_changeFrom := fun t => match t with
  | 0 => ⟨_, so_aload_n (i := 0) (k := 0) (by decide +kernel) rfl,
    ⟨_, so_iload_n (i := 1) (k := 1) (by decide +kernel) rfl,
    ⟨_, so_iload_n (i := 2) (k := 2) (by decide +kernel) rfl,
    ⟨_, so_invV (mi' := m_Co_figureFrom) (ci := 1) (n := 2) (index := 80) rfl rfl tw_671 tw_672 ⟨tw_673, tw_67, ⟨by decide +kernel, by decide +kernel, by decide +kernel⟩, by decide +kernel⟩ tw_670 (by decide +kernel),
    ⟨_, so_bipush (n := (20)) (by decide +kernel) (by decide +kernel) ⟨by decide, by decide⟩,
    ⟨_, so_isub (by decide +kernel),
    ⟨_, so_istore_n (i := 3) (k := 3) (by decide +kernel) rfl (by decide +kernel),
    ⟨_, so_aload_n (i := 0) (k := 0) (by decide +kernel) rfl,
    ⟨_, so_iload_n (i := 1) (k := 1) (by decide +kernel) rfl,
    ⟨_, so_invV (mi' := m_Co_hasRoad) (ci := 1) (n := 1) (index := 69) rfl rfl tw_538 tw_539 ⟨tw_540, tw_67, ⟨by decide +kernel, by decide +kernel, by decide +kernel⟩, by decide +kernel⟩ tw_537 (by decide +kernel),
    ⟨_, so_ifeq (t := 1) (off := 19) (by decide +kernel) rfl,
    ⟨_, so_aload_n (i := 0) (k := 0) (by decide +kernel) rfl,
    ⟨_, so_getr (ci := 1) (k := 1) (index := 18) rfl CF_1 (by decide +kernel) (fun _ _ _ => rfl) tw_175 rfl (by decide +kernel),
    ⟨_, so_iload_n (i := 1) (k := 1) (by decide +kernel) rfl,
    ⟨_, so_iald rfl (by decide +kernel),
    ⟨_, so_iconst (n := (3)) (by decide +kernel) ⟨by decide, by decide⟩,
    ⟨_, so_icne (t := 1) (off := 9) (by decide +kernel) rfl,
    ⟨_, so_iconst (n := (2)) (by decide +kernel) ⟨by decide, by decide⟩,
    ⟨_, so_iload_n (i := 3) (k := 3) (by decide +kernel) rfl,
    ⟨_, so_imul (by decide +kernel),
    ⟨_, so_goto (pc' := 0) (t := 2) (off := 4) (by decide +kernel) rfl,
    trivial⟩⟩⟩⟩⟩⟩⟩⟩⟩⟩⟩⟩⟩⟩⟩⟩⟩⟩⟩⟩⟩
  | 1 => ⟨_, so_iload_n (i := 3) (k := 3) (by decide +kernel) rfl,
    ⟨_, so_fall (pc' := 0) (t := 2) rfl,
    trivial⟩⟩
  | 2 => ⟨_, so_iret (pc' := 0) rfl (by decide +kernel),
    trivial⟩
  | _ + 3 => trivial
def c_Co_sumBehind : List (List Op) := [
  [op_aload 0, op_iload 1, op_aload 0, op_iload 1, op_iload 2, op_invV SC m_Co_figureFrom 1 2, op_iload 3, op_invV SC m_Co_sumBy 1 3, op_iret]]
def t_Co_sumBehind : Nat → Nat := fun t => [0].getD t 0
set_option maxRecDepth 100000 in
theorem ok_Co_sumBehind : MOK SC m_Co_sumBehind c_Co_sumBehind t_Co_sumBehind := fun t => match t with
  | 0 => ⟨_, so_aload_n (i := 0) (k := 0) (by decide +kernel) rfl,
    ⟨_, so_iload_n (i := 1) (k := 1) (by decide +kernel) rfl,
    ⟨_, so_aload_n (i := 0) (k := 0) (by decide +kernel) rfl,
    ⟨_, so_iload_n (i := 1) (k := 1) (by decide +kernel) rfl,
    ⟨_, so_iload_n (i := 2) (k := 2) (by decide +kernel) rfl,
    ⟨_, so_invV (mi' := m_Co_figureFrom) (ci := 1) (n := 2) (index := 80) rfl rfl tw_671 tw_672 ⟨tw_673, tw_67, ⟨by decide +kernel, by decide +kernel, by decide +kernel⟩, by decide +kernel⟩ tw_670 (by decide +kernel),
    ⟨_, so_iload_n (i := 3) (k := 3) (by decide +kernel) rfl,
    ⟨_, so_invV (mi' := m_Co_sumBy) (ci := 1) (n := 3) (index := 84) rfl rfl tw_679 tw_680 ⟨tw_681, tw_67, ⟨by decide +kernel, by decide +kernel, by decide +kernel⟩, by decide +kernel⟩ tw_678 (by decide +kernel),
    ⟨_, so_iret (pc' := 0) rfl (by decide +kernel),
    trivial⟩⟩⟩⟩⟩⟩⟩⟩⟩
  | _ + 1 => trivial
def c_Co_sumBy : List (List Op) := [
  [op_iload 2, op_ci (20), op_isub, op_istore 4, op_iload 3, op_iload 4, op_iadd, op_istore 5, op_iload 1, op_iflt 1, op_iload 1, op_aload 0, op_geti SC 1 6, op_icge 1, op_aload 0, op_getr SC 1 1, op_iload 1, op_iald SC, op_goto 2],
  [op_ci (-4), op_goto 2],
  [op_table (1) [3, 4, 5] 6],
  [op_iload 5, op_ci (2), op_iadd, op_ci (5), op_idiv, op_ci (5), op_imul, op_istore 5, op_goto 6],
  [op_iload 5, op_ci (1), op_isub, op_istore 5, op_goto 6],
  [op_iload 5, op_iload 4, op_iadd, op_istore 5, op_goto 6],
  [op_iload 5, op_ifge 7, op_ci (0), op_iret],
  [op_iload 5, op_ci (999), op_icle 8, op_ci (999), op_goto 9],
  [op_iload 5, op_goto 9],
  [op_iret]]
def t_Co_sumBy : Nat → Nat := fun t => [0, 33, 35, 60, 73, 82, 92, 99, 113, 115].getD t 0
set_option maxRecDepth 100000 in
theorem ok_Co_sumBy : MOK SC m_Co_sumBy c_Co_sumBy t_Co_sumBy := fun t => match t with
  | 0 => ⟨_, so_iload_n (i := 2) (k := 2) (by decide +kernel) rfl,
    ⟨_, so_bipush (n := (20)) (by decide +kernel) (by decide +kernel) ⟨by decide, by decide⟩,
    ⟨_, so_isub (by decide +kernel),
    ⟨_, so_istore (i := 4) (by decide +kernel) (by decide +kernel),
    ⟨_, so_iload_n (i := 3) (k := 3) (by decide +kernel) rfl,
    ⟨_, so_iload (i := 4) (by decide +kernel),
    ⟨_, so_iadd (by decide +kernel),
    ⟨_, so_istore (i := 5) (by decide +kernel) (by decide +kernel),
    ⟨_, so_iload_n (i := 1) (k := 1) (by decide +kernel) rfl,
    ⟨_, so_iflt (t := 1) (off := 20) (by decide +kernel) rfl,
    ⟨_, so_iload_n (i := 1) (k := 1) (by decide +kernel) rfl,
    ⟨_, so_aload_n (i := 0) (k := 0) (by decide +kernel) rfl,
    ⟨_, so_geti (ci := 1) (k := 6) (index := 35) rfl CF_1 (by decide +kernel) (fun _ _ _ => rfl) tw_180 rfl (by decide +kernel),
    ⟨_, so_icge (t := 1) (off := 12) (by decide +kernel) rfl,
    ⟨_, so_aload_n (i := 0) (k := 0) (by decide +kernel) rfl,
    ⟨_, so_getr (ci := 1) (k := 1) (index := 18) rfl CF_1 (by decide +kernel) (fun _ _ _ => rfl) tw_175 rfl (by decide +kernel),
    ⟨_, so_iload_n (i := 1) (k := 1) (by decide +kernel) rfl,
    ⟨_, so_iald rfl (by decide +kernel),
    ⟨_, so_goto (pc' := 0) (t := 2) (off := 5) (by decide +kernel) rfl,
    trivial⟩⟩⟩⟩⟩⟩⟩⟩⟩⟩⟩⟩⟩⟩⟩⟩⟩⟩⟩
  | 1 => ⟨_, so_bipush (n := (-4)) (by decide +kernel) (by decide +kernel) ⟨by decide, by decide⟩,
    ⟨_, so_fall (pc' := 0) (t := 2) rfl,
    trivial⟩⟩
  | 2 => ⟨_, so_table (pc' := 0) (lo := 1) (ts := [3, 4, 5]) (d := 6) (hi := 3) (dflt := 57) (offs := #[25, 38, 47]) (len := 25) (by decide +kernel) rfl (by decide +kernel) rfl,
    trivial⟩
  | 3 => ⟨_, so_iload (i := 5) (by decide +kernel),
    ⟨_, so_iconst (n := (2)) (by decide +kernel) ⟨by decide, by decide⟩,
    ⟨_, so_iadd (by decide +kernel),
    ⟨_, so_iconst (n := (5)) (by decide +kernel) ⟨by decide, by decide⟩,
    ⟨_, so_idiv (by decide +kernel),
    ⟨_, so_iconst (n := (5)) (by decide +kernel) ⟨by decide, by decide⟩,
    ⟨_, so_imul (by decide +kernel),
    ⟨_, so_istore (i := 5) (by decide +kernel) (by decide +kernel),
    ⟨_, so_goto (pc' := 0) (t := 6) (off := 22) (by decide +kernel) rfl,
    trivial⟩⟩⟩⟩⟩⟩⟩⟩⟩
  | 4 => ⟨_, so_iload (i := 5) (by decide +kernel),
    ⟨_, so_iconst (n := (1)) (by decide +kernel) ⟨by decide, by decide⟩,
    ⟨_, so_isub (by decide +kernel),
    ⟨_, so_istore (i := 5) (by decide +kernel) (by decide +kernel),
    ⟨_, so_goto (pc' := 0) (t := 6) (off := 13) (by decide +kernel) rfl,
    trivial⟩⟩⟩⟩⟩
  | 5 => ⟨_, so_iload (i := 5) (by decide +kernel),
    ⟨_, so_iload (i := 4) (by decide +kernel),
    ⟨_, so_iadd (by decide +kernel),
    ⟨_, so_istore (i := 5) (by decide +kernel) (by decide +kernel),
    ⟨_, so_goto (pc' := 0) (t := 6) (off := 3) (by decide +kernel) rfl,
    trivial⟩⟩⟩⟩⟩
  | 6 => ⟨_, so_iload (i := 5) (by decide +kernel),
    ⟨_, so_ifge (t := 7) (off := 5) (by decide +kernel) rfl,
    ⟨_, so_iconst (n := (0)) (by decide +kernel) ⟨by decide, by decide⟩,
    ⟨_, so_iret (pc' := 0) rfl (by decide +kernel),
    trivial⟩⟩⟩⟩
  | 7 => ⟨_, so_iload (i := 5) (by decide +kernel),
    ⟨_, so_sipush (n := (999)) (by decide +kernel) (by decide +kernel) ⟨by decide, by decide⟩,
    ⟨_, so_icle (t := 8) (off := 9) (by decide +kernel) rfl,
    ⟨_, so_sipush (n := (999)) (by decide +kernel) (by decide +kernel) ⟨by decide, by decide⟩,
    ⟨_, so_goto (pc' := 0) (t := 9) (off := 5) (by decide +kernel) rfl,
    trivial⟩⟩⟩⟩⟩
  | 8 => ⟨_, so_iload (i := 5) (by decide +kernel),
    ⟨_, so_fall (pc' := 0) (t := 9) rfl,
    trivial⟩⟩
  | 9 => ⟨_, so_iret (pc' := 0) rfl (by decide +kernel),
    trivial⟩
  | _ + 10 => trivial
def c_Co_bitsOfAll : List (List Op) := [
  [op_ci (1), op_aload 0, op_geti SC 1 6, op_ishl, op_ci (1), op_isub, op_iret]]
def t_Co_bitsOfAll : Nat → Nat := fun t => [0].getD t 0
set_option maxRecDepth 100000 in
theorem ok_Co_bitsOfAll : MOK SC m_Co_bitsOfAll c_Co_bitsOfAll t_Co_bitsOfAll := fun t => match t with
  | 0 => ⟨_, so_iconst (n := (1)) (by decide +kernel) ⟨by decide, by decide⟩,
    ⟨_, so_aload_n (i := 0) (k := 0) (by decide +kernel) rfl,
    ⟨_, so_geti (ci := 1) (k := 6) (index := 35) rfl CF_1 (by decide +kernel) (fun _ _ _ => rfl) tw_180 rfl (by decide +kernel),
    ⟨_, so_ishl (by decide +kernel),
    ⟨_, so_iconst (n := (1)) (by decide +kernel) ⟨by decide, by decide⟩,
    ⟨_, so_isub (by decide +kernel),
    ⟨_, so_iret (pc' := 0) rfl (by decide +kernel),
    trivial⟩⟩⟩⟩⟩⟩⟩
  | _ + 1 => trivial
def c_Co_bitsNotShut : List (List Op) := [
  [op_aload 0, op_invV SC m_Co_bitsOfAll 1 0, op_aload 0, op_getr SC 1 0, op_geti SC 7 3, op_ci (-1), op_ixor, op_iand, op_iret]]
def t_Co_bitsNotShut : Nat → Nat := fun t => [0].getD t 0
set_option maxRecDepth 100000 in
theorem ok_Co_bitsNotShut : MOK SC m_Co_bitsNotShut c_Co_bitsNotShut t_Co_bitsNotShut := fun t => match t with
  | 0 => ⟨_, so_aload_n (i := 0) (k := 0) (by decide +kernel) rfl,
    ⟨_, so_invV (mi' := m_Co_bitsOfAll) (ci := 1) (n := 0) (index := 88) rfl rfl tw_839 tw_840 ⟨tw_841, tw_67, ⟨by decide +kernel, by decide +kernel, by decide +kernel⟩, by decide +kernel⟩ tw_838 (by decide +kernel),
    ⟨_, so_aload_n (i := 0) (k := 0) (by decide +kernel) rfl,
    ⟨_, so_getr (ci := 1) (k := 0) (index := 12) rfl CF_1 (by decide +kernel) (fun _ _ _ => rfl) tw_167 rfl (by decide +kernel),
    ⟨_, so_getiN (ci := 7) (k := 3) (index := 50) rfl CF_7 (by decide +kernel) (fun _ _ _ => rfl) tw_143 rfl (by decide +kernel),
    ⟨_, so_iconst (n := (-1)) (by decide +kernel) ⟨by decide, by decide⟩,
    ⟨_, so_ixor (by decide +kernel),
    ⟨_, so_iand (by decide +kernel),
    ⟨_, so_iret (pc' := 0) rfl (by decide +kernel),
    trivial⟩⟩⟩⟩⟩⟩⟩⟩⟩
  | _ + 1 => trivial
def c_He_init : List (List Op) := [
  [op_aload 0, op_oinit, op_aload 0, op_ci (6), op_newa SC .int, op_putr SC 2 1, op_aload 0, op_ci (6), op_newa SC .int, op_putr SC 2 2, op_aload 0, op_aload 1, op_putr SC 2 0, op_ret]]
def t_He_init : Nat → Nat := fun t => [0].getD t 0
set_option maxRecDepth 100000 in
theorem ok_He_init : MOK SC m_He_init c_He_init t_He_init := fun t => match t with
  | 0 => ⟨_, so_aload_n (i := 0) (k := 0) (by decide +kernel) rfl,
    ⟨_, so_oinit (index := 3) tw_290 tw_91 tw_92 (by decide +kernel) (by decide +kernel),
    ⟨_, so_aload_n (i := 0) (k := 0) (by decide +kernel) rfl,
    ⟨_, so_bipush (n := (6)) (by decide +kernel) (by decide +kernel) ⟨by decide, by decide⟩,
    ⟨_, so_newa (atype := .int) (ty := .int) rfl (by decide) tw_166 (by decide +kernel),
    ⟨_, so_putrF (ci := 2) (k := 1) (index := 9) rfl CF_2 (by decide +kernel) (Or.inr ⟨_, rfl⟩) tw_292 rfl rfl rfl rfl (by decide +kernel),
    ⟨_, so_aload_n (i := 0) (k := 0) (by decide +kernel) rfl,
    ⟨_, so_bipush (n := (6)) (by decide +kernel) (by decide +kernel) ⟨by decide, by decide⟩,
    ⟨_, so_newa (atype := .int) (ty := .int) rfl (by decide) tw_166 (by decide +kernel),
    ⟨_, so_putrF (ci := 2) (k := 2) (index := 15) rfl CF_2 (by decide +kernel) (Or.inr ⟨_, rfl⟩) tw_293 rfl rfl rfl rfl (by decide +kernel),
    ⟨_, so_aload_n (i := 0) (k := 0) (by decide +kernel) rfl,
    ⟨_, so_aload_n (i := 1) (k := 1) (by decide +kernel) rfl,
    ⟨_, so_putrF (ci := 2) (k := 0) (index := 18) rfl CF_2 (by decide +kernel) (Or.inl ⟨_, rfl⟩) tw_291 rfl rfl rfl rfl (by decide +kernel),
    ⟨_, so_ret (pc' := 0) rfl (by decide +kernel),
    trivial⟩⟩⟩⟩⟩⟩⟩⟩⟩⟩⟩⟩⟩⟩
  | _ + 1 => trivial
def c_He_agreeNow : List (List Op) := [
  [op_aload 0, op_aload 0, op_getr SC 2 0, op_invV SC m_Co_bitsNotShut 1 0, op_invV SC m_He_agreeBy 2 1, op_zret]]
def t_He_agreeNow : Nat → Nat := fun t => [0].getD t 0
set_option maxRecDepth 100000 in
theorem ok_He_agreeNow : MOK SC m_He_agreeNow c_He_agreeNow t_He_agreeNow := fun t => match t with
  | 0 => ⟨_, so_aload_n (i := 0) (k := 0) (by decide +kernel) rfl,
    ⟨_, so_aload_n (i := 0) (k := 0) (by decide +kernel) rfl,
    ⟨_, so_getr (ci := 2) (k := 0) (index := 18) rfl CF_2 (by decide +kernel) (fun _ _ _ => rfl) tw_291 rfl (by decide +kernel),
    ⟨_, so_invV (mi' := m_Co_bitsNotShut) (ci := 1) (n := 0) (index := 22) rfl rfl tw_835 tw_836 ⟨tw_837, tw_67, ⟨by decide +kernel, by decide +kernel, by decide +kernel⟩, by decide +kernel⟩ tw_834 (by decide +kernel),
    ⟨_, so_invV (mi' := m_He_agreeBy) (ci := 2) (n := 1) (index := 28) rfl rfl tw_844 tw_15 ⟨tw_845, tw_72, ⟨by decide +kernel, by decide +kernel, by decide +kernel⟩, by decide +kernel⟩ tw_842 (by decide +kernel),
    ⟨_, so_zret (pc' := 0) rfl (by decide +kernel),
    trivial⟩⟩⟩⟩⟩⟩
  | _ + 1 => trivial
def c_He_of : List (List Op) := [
  [op_aload 0, op_getr SC 2 0, op_iload 1, op_invV SC m_Co_hasPlace 1 1, op_ifeq 1, op_aload 0, op_getr SC 2 2, op_iload 1, op_iald SC, op_goto 2],
  [op_ci (100), op_goto 2],
  [op_iret]]
def t_He_of : Nat → Nat := fun t => [0, 20, 22].getD t 0
set_option maxRecDepth 100000 in
theorem ok_He_of : MOK SC m_He_of c_He_of t_He_of := fun t => match t with
  | 0 => ⟨_, so_aload_n (i := 0) (k := 0) (by decide +kernel) rfl,
    ⟨_, so_getr (ci := 2) (k := 0) (index := 18) rfl CF_2 (by decide +kernel) (fun _ _ _ => rfl) tw_291 rfl (by decide +kernel),
    ⟨_, so_iload_n (i := 1) (k := 1) (by decide +kernel) rfl,
    ⟨_, so_invV (mi' := m_Co_hasPlace) (ci := 1) (n := 1) (index := 32) rfl rfl tw_522 tw_523 ⟨tw_524, tw_67, ⟨by decide +kernel, by decide +kernel, by decide +kernel⟩, by decide +kernel⟩ tw_859 (by decide +kernel),
    ⟨_, so_ifeq (t := 1) (off := 12) (by decide +kernel) rfl,
    ⟨_, so_aload_n (i := 0) (k := 0) (by decide +kernel) rfl,
    ⟨_, so_getr (ci := 2) (k := 2) (index := 15) rfl CF_2 (by decide +kernel) (fun _ _ _ => rfl) tw_293 rfl (by decide +kernel),
    ⟨_, so_iload_n (i := 1) (k := 1) (by decide +kernel) rfl,
    ⟨_, so_iald rfl (by decide +kernel),
    ⟨_, so_goto (pc' := 0) (t := 2) (off := 5) (by decide +kernel) rfl,
    trivial⟩⟩⟩⟩⟩⟩⟩⟩⟩⟩
  | 1 => ⟨_, so_bipush (n := (100)) (by decide +kernel) (by decide +kernel) ⟨by decide, by decide⟩,
    ⟨_, so_fall (pc' := 0) (t := 2) rfl,
    trivial⟩⟩
  | 2 => ⟨_, so_iret (pc' := 0) rfl (by decide +kernel),
    trivial⟩
  | _ + 3 => trivial
def c_He_hangTogether : List (List Op) := [
  [op_aload 0, op_getr SC 2 0, op_iload 1, op_invV SC m_Co_hasPlace 1 1, op_ifeq 1, op_aload 0, op_getr SC 2 0, op_iload 2, op_invV SC m_Co_hasPlace 1 1, op_ifeq 1, op_aload 0, op_getr SC 2 1, op_iload 1, op_iald SC, op_aload 0, op_getr SC 2 1, op_iload 2, op_iald SC, op_icne 1, op_ci (1), op_goto 2],
  [op_ci (0), op_goto 2],
  [op_zret]]
def t_He_hangTogether : Nat → Nat := fun t => [0, 41, 42].getD t 0
set_option maxRecDepth 100000 in
theorem ok_He_hangTogether : MOK SC m_He_hangTogether c_He_hangTogether t_He_hangTogether := fun t => match t with
  | 0 => ⟨_, so_aload_n (i := 0) (k := 0) (by decide +kernel) rfl,
    ⟨_, so_getr (ci := 2) (k := 0) (index := 18) rfl CF_2 (by decide +kernel) (fun _ _ _ => rfl) tw_291 rfl (by decide +kernel),
    ⟨_, so_iload_n (i := 1) (k := 1) (by decide +kernel) rfl,
    ⟨_, so_invV (mi' := m_Co_hasPlace) (ci := 1) (n := 1) (index := 32) rfl rfl tw_522 tw_523 ⟨tw_524, tw_67, ⟨by decide +kernel, by decide +kernel, by decide +kernel⟩, by decide +kernel⟩ tw_859 (by decide +kernel),
    ⟨_, so_ifeq (t := 1) (off := 33) (by decide +kernel) rfl,
    ⟨_, so_aload_n (i := 0) (k := 0) (by decide +kernel) rfl,
    ⟨_, so_getr (ci := 2) (k := 0) (index := 18) rfl CF_2 (by decide +kernel) (fun _ _ _ => rfl) tw_291 rfl (by decide +kernel),
    ⟨_, so_iload_n (i := 2) (k := 2) (by decide +kernel) rfl,
    ⟨_, so_invV (mi' := m_Co_hasPlace) (ci := 1) (n := 1) (index := 32) rfl rfl tw_522 tw_523 ⟨tw_524, tw_67, ⟨by decide +kernel, by decide +kernel, by decide +kernel⟩, by decide +kernel⟩ tw_859 (by decide +kernel),
    ⟨_, so_ifeq (t := 1) (off := 22) (by decide +kernel) rfl,
    ⟨_, so_aload_n (i := 0) (k := 0) (by decide +kernel) rfl,
    ⟨_, so_getr (ci := 2) (k := 1) (index := 9) rfl CF_2 (by decide +kernel) (fun _ _ _ => rfl) tw_292 rfl (by decide +kernel),
    ⟨_, so_iload_n (i := 1) (k := 1) (by decide +kernel) rfl,
    ⟨_, so_iald rfl (by decide +kernel),
    ⟨_, so_aload_n (i := 0) (k := 0) (by decide +kernel) rfl,
    ⟨_, so_getr (ci := 2) (k := 1) (index := 9) rfl CF_2 (by decide +kernel) (fun _ _ _ => rfl) tw_292 rfl (by decide +kernel),
    ⟨_, so_iload_n (i := 2) (k := 2) (by decide +kernel) rfl,
    ⟨_, so_iald rfl (by decide +kernel),
    ⟨_, so_icne (t := 1) (off := 7) (by decide +kernel) rfl,
    ⟨_, so_iconst (n := (1)) (by decide +kernel) ⟨by decide, by decide⟩,
    ⟨_, so_goto (pc' := 0) (t := 2) (off := 4) (by decide +kernel) rfl,
    trivial⟩⟩⟩⟩⟩⟩⟩⟩⟩⟩⟩⟩⟩⟩⟩⟩⟩⟩⟩⟩⟩
  | 1 => ⟨_, so_iconst (n := (0)) (by decide +kernel) ⟨by decide, by decide⟩,
    ⟨_, so_fall (pc' := 0) (t := 2) rfl,
    trivial⟩⟩
  | 2 => ⟨_, so_zret (pc' := 0) rfl (by decide +kernel),
    trivial⟩
  | _ + 3 => trivial
def c_He_fewestToShut : List (List Op) := [
  [op_aload 0, op_getr SC 2 0, op_invV SC m_Co_bitsNotShut 1 0, op_istore 1, op_aload 0, op_iload 1, op_invV SC m_He_unlikeWays 2 1, op_istore 2, op_iload 1, op_istore 3, op_ci (0), op_istore 4, op_goto 1],
  [op_iload 4, op_iload 1, op_icgt 5, op_iload 4, op_iload 1, op_ci (-1), op_ixor, op_iand, op_ifne 2, op_iload 2, op_iload 4, op_ci (-1), op_ixor, op_iand, op_ifne 2, op_iload 4, op_invS SC m_Jd_bitCount 1, op_iload 3, op_invS SC m_Jd_bitCount 1, op_icge 2, op_ci (1), op_goto 3],
  [op_ci (0), op_goto 3],
  [op_istore 5, op_iload 5, op_ifeq 4, op_aload 0, op_iload 1, op_iload 4, op_ci (-1), op_ixor, op_iand, op_invV SC m_He_agreeBy 2 1, op_ifeq 4, op_iload 4, op_istore 3, op_goto 4],
  [op_iinc 4 (1), op_goto 1],
  [op_iload 3, op_iret]]
def t_He_fewestToShut : Nat → Nat := fun t => [0, 19, 59, 60, 83, 89].getD t 0
set_option maxRecDepth 100000 in
theorem ok_He_fewestToShut : MOK SC m_He_fewestToShut c_He_fewestToShut t_He_fewestToShut := fun t => match t with
  | 0 => ⟨_, so_aload_n (i := 0) (k := 0) (by decide +kernel) rfl,
    ⟨_, so_getr (ci := 2) (k := 0) (index := 18) rfl CF_2 (by decide +kernel) (fun _ _ _ => rfl) tw_291 rfl (by decide +kernel),
    ⟨_, so_invV (mi' := m_Co_bitsNotShut) (ci := 1) (n := 0) (index := 22) rfl rfl tw_835 tw_836 ⟨tw_837, tw_67, ⟨by decide +kernel, by decide +kernel, by decide +kernel⟩, by decide +kernel⟩ tw_834 (by decide +kernel),
    ⟨_, so_istore_n (i := 1) (k := 1) (by decide +kernel) rfl (by decide +kernel),
    ⟨_, so_aload_n (i := 0) (k := 0) (by decide +kernel) rfl,
    ⟨_, so_iload_n (i := 1) (k := 1) (by decide +kernel) rfl,
    ⟨_, so_invV (mi' := m_He_unlikeWays) (ci := 2) (n := 1) (index := 35) rfl rfl tw_921 tw_23 ⟨tw_922, tw_72, ⟨by decide +kernel, by decide +kernel, by decide +kernel⟩, by decide +kernel⟩ tw_919 (by decide +kernel),
    ⟨_, so_istore_n (i := 2) (k := 2) (by decide +kernel) rfl (by decide +kernel),
    ⟨_, so_iload_n (i := 1) (k := 1) (by decide +kernel) rfl,
    ⟨_, so_istore_n (i := 3) (k := 3) (by decide +kernel) rfl (by decide +kernel),
    ⟨_, so_iconst (n := (0)) (by decide +kernel) ⟨by decide, by decide⟩,
    ⟨_, so_istore (i := 4) (by decide +kernel) (by decide +kernel),
    ⟨_, so_fall (pc' := 0) (t := 1) rfl,
    trivial⟩⟩⟩⟩⟩⟩⟩⟩⟩⟩⟩⟩⟩
  | 1 => ⟨_, so_iload (i := 4) (by decide +kernel),
    ⟨_, so_iload_n (i := 1) (k := 1) (by decide +kernel) rfl,
    ⟨_, so_icgt (t := 5) (off := 67) (by decide +kernel) rfl,
    ⟨_, so_iload (i := 4) (by decide +kernel),
    ⟨_, so_iload_n (i := 1) (k := 1) (by decide +kernel) rfl,
    ⟨_, so_iconst (n := (-1)) (by decide +kernel) ⟨by decide, by decide⟩,
    ⟨_, so_ixor (by decide +kernel),
    ⟨_, so_iand (by decide +kernel),
    ⟨_, so_ifne (t := 2) (off := 28) (by decide +kernel) rfl,
    ⟨_, so_iload_n (i := 2) (k := 2) (by decide +kernel) rfl,
    ⟨_, so_iload (i := 4) (by decide +kernel),
    ⟨_, so_iconst (n := (-1)) (by decide +kernel) ⟨by decide, by decide⟩,
    ⟨_, so_ixor (by decide +kernel),
    ⟨_, so_iand (by decide +kernel),
    ⟨_, so_ifne (t := 2) (off := 19) (by decide +kernel) rfl,
    ⟨_, so_iload (i := 4) (by decide +kernel),
    ⟨_, so_invS (mi' := m_Jd_bitCount) (n := 1) (index := 39) tw_715 ⟨tw_716, tw_82, ⟨by decide +kernel, by decide +kernel, by decide +kernel⟩, by decide +kernel⟩ tw_923 (by decide +kernel),
    ⟨_, so_iload_n (i := 3) (k := 3) (by decide +kernel) rfl,
    ⟨_, so_invS (mi' := m_Jd_bitCount) (n := 1) (index := 39) tw_715 ⟨tw_716, tw_82, ⟨by decide +kernel, by decide +kernel, by decide +kernel⟩, by decide +kernel⟩ tw_923 (by decide +kernel),
    ⟨_, so_icge (t := 2) (off := 7) (by decide +kernel) rfl,
    ⟨_, so_iconst (n := (1)) (by decide +kernel) ⟨by decide, by decide⟩,
    ⟨_, so_goto (pc' := 0) (t := 3) (off := 4) (by decide +kernel) rfl,
    trivial⟩⟩⟩⟩⟩⟩⟩⟩⟩⟩⟩⟩⟩⟩⟩⟩⟩⟩⟩⟩⟩⟩
  | 2 => ⟨_, so_iconst (n := (0)) (by decide +kernel) ⟨by decide, by decide⟩,
    ⟨_, so_fall (pc' := 0) (t := 3) rfl,
    trivial⟩⟩
  | 3 => ⟨_, so_istore (i := 5) (by decide +kernel) (by decide +kernel),
    ⟨_, so_iload (i := 5) (by decide +kernel),
    ⟨_, so_ifeq (t := 4) (off := 19) (by decide +kernel) rfl,
    ⟨_, so_aload_n (i := 0) (k := 0) (by decide +kernel) rfl,
    ⟨_, so_iload_n (i := 1) (k := 1) (by decide +kernel) rfl,
    ⟨_, so_iload (i := 4) (by decide +kernel),
    ⟨_, so_iconst (n := (-1)) (by decide +kernel) ⟨by decide, by decide⟩,
    ⟨_, so_ixor (by decide +kernel),
    ⟨_, so_iand (by decide +kernel),
    ⟨_, so_invV (mi' := m_He_agreeBy) (ci := 2) (n := 1) (index := 28) rfl rfl tw_844 tw_15 ⟨tw_845, tw_72, ⟨by decide +kernel, by decide +kernel, by decide +kernel⟩, by decide +kernel⟩ tw_842 (by decide +kernel),
    ⟨_, so_ifeq (t := 4) (off := 6) (by decide +kernel) rfl,
    ⟨_, so_iload (i := 4) (by decide +kernel),
    ⟨_, so_istore_n (i := 3) (k := 3) (by decide +kernel) rfl (by decide +kernel),
    ⟨_, so_fall (pc' := 0) (t := 4) rfl,
    trivial⟩⟩⟩⟩⟩⟩⟩⟩⟩⟩⟩⟩⟩⟩
  | 4 => ⟨_, so_iinc (i := 4) (n := 1) (by decide +kernel) (by decide +kernel),
    ⟨_, so_goto (pc' := 0) (t := 1) (off := -67) (by decide +kernel) rfl,
    trivial⟩⟩
  | 5 => ⟨_, so_iload_n (i := 3) (k := 3) (by decide +kernel) rfl,
    ⟨_, so_iret (pc' := 0) rfl (by decide +kernel),
    trivial⟩⟩
  | _ + 6 => trivial
def c_He_unlikeWays : List (List Op) := [
  [op_ci (0), op_istore 2, op_ci (0), op_istore 3, op_goto 1],
  [op_iload 3, op_aload 0, op_getr SC 2 0, op_invV SC m_Co_roads 1 0, op_icge 3, op_iload 1, op_ci (1), op_iload 3, op_ishl, op_iand, op_ifeq 2, op_aload 0, op_getr SC 2 0, op_getr SC 1 0, op_getr SC 7 4, op_iload 3, op_iald SC, op_aload 0, op_getr SC 2 0, op_getr SC 1 0, op_getr SC 7 5, op_iload 3, op_iald SC, op_iadd, op_ci (40), op_iceq 2, op_iload 2, op_ci (1), op_iload 3, op_ishl, op_ior, op_istore 2, op_goto 2],
  [op_iinc 3 (1), op_goto 1],
  [op_iload 2, op_iret]]
def t_He_unlikeWays : Nat → Nat := fun t => [0, 4, 59, 65].getD t 0
set_option maxRecDepth 100000 in
theorem ok_He_unlikeWays : MOK SC m_He_unlikeWays c_He_unlikeWays t_He_unlikeWays := fun t => match t with
  | 0 => ⟨_, so_iconst (n := (0)) (by decide +kernel) ⟨by decide, by decide⟩,
    ⟨_, so_istore_n (i := 2) (k := 2) (by decide +kernel) rfl (by decide +kernel),
    ⟨_, so_iconst (n := (0)) (by decide +kernel) ⟨by decide, by decide⟩,
    ⟨_, so_istore_n (i := 3) (k := 3) (by decide +kernel) rfl (by decide +kernel),
    ⟨_, so_fall (pc' := 0) (t := 1) rfl,
    trivial⟩⟩⟩⟩⟩
  | 1 => ⟨_, so_iload_n (i := 3) (k := 3) (by decide +kernel) rfl,
    ⟨_, so_aload_n (i := 0) (k := 0) (by decide +kernel) rfl,
    ⟨_, so_getr (ci := 2) (k := 0) (index := 18) rfl CF_2 (by decide +kernel) (fun _ _ _ => rfl) tw_291 rfl (by decide +kernel),
    ⟨_, so_invV (mi' := m_Co_roads) (ci := 1) (n := 0) (index := 44) rfl rfl tw_617 tw_618 ⟨tw_619, tw_67, ⟨by decide +kernel, by decide +kernel, by decide +kernel⟩, by decide +kernel⟩ tw_852 (by decide +kernel),
    ⟨_, so_icge (t := 3) (off := 53) (by decide +kernel) rfl,
    ⟨_, so_iload_n (i := 1) (k := 1) (by decide +kernel) rfl,
    ⟨_, so_iconst (n := (1)) (by decide +kernel) ⟨by decide, by decide⟩,
    ⟨_, so_iload_n (i := 3) (k := 3) (by decide +kernel) rfl,
    ⟨_, so_ishl (by decide +kernel),
    ⟨_, so_iand (by decide +kernel),
    ⟨_, so_ifeq (t := 2) (off := 39) (by decide +kernel) rfl,
    ⟨_, so_aload_n (i := 0) (k := 0) (by decide +kernel) rfl,
    ⟨_, so_getr (ci := 2) (k := 0) (index := 18) rfl CF_2 (by decide +kernel) (fun _ _ _ => rfl) tw_291 rfl (by decide +kernel),
    ⟨_, so_getrN (ci := 1) (k := 0) (index := 47) rfl CF_1 (by decide +kernel) (fun _ _ _ => rfl) tw_171 rfl (by decide +kernel),
    ⟨_, so_getrN (ci := 7) (k := 4) (index := 51) rfl CF_7 (by decide +kernel) (fun _ _ _ => rfl) tw_147 rfl (by decide +kernel),
    ⟨_, so_iload_n (i := 3) (k := 3) (by decide +kernel) rfl,
    ⟨_, so_iald rfl (by decide +kernel),
    ⟨_, so_aload_n (i := 0) (k := 0) (by decide +kernel) rfl,
    ⟨_, so_getr (ci := 2) (k := 0) (index := 18) rfl CF_2 (by decide +kernel) (fun _ _ _ => rfl) tw_291 rfl (by decide +kernel),
    ⟨_, so_getrN (ci := 1) (k := 0) (index := 47) rfl CF_1 (by decide +kernel) (fun _ _ _ => rfl) tw_171 rfl (by decide +kernel),
    ⟨_, so_getrN (ci := 7) (k := 5) (index := 56) rfl CF_7 (by decide +kernel) (fun _ _ _ => rfl) tw_151 rfl (by decide +kernel),
    ⟨_, so_iload_n (i := 3) (k := 3) (by decide +kernel) rfl,
    ⟨_, so_iald rfl (by decide +kernel),
    ⟨_, so_iadd (by decide +kernel),
    ⟨_, so_bipush (n := (40)) (by decide +kernel) (by decide +kernel) ⟨by decide, by decide⟩,
    ⟨_, so_iceq (t := 2) (off := 9) (by decide +kernel) rfl,
    ⟨_, so_iload_n (i := 2) (k := 2) (by decide +kernel) rfl,
    ⟨_, so_iconst (n := (1)) (by decide +kernel) ⟨by decide, by decide⟩,
    ⟨_, so_iload_n (i := 3) (k := 3) (by decide +kernel) rfl,
    ⟨_, so_ishl (by decide +kernel),
    ⟨_, so_ior (by decide +kernel),
    ⟨_, so_istore_n (i := 2) (k := 2) (by decide +kernel) rfl (by decide +kernel),
    ⟨_, so_fall (pc' := 0) (t := 2) rfl,
    trivial⟩⟩⟩⟩⟩⟩⟩⟩⟩⟩⟩⟩⟩⟩⟩⟩⟩⟩⟩⟩⟩⟩⟩⟩⟩⟩⟩⟩⟩⟩⟩⟩⟩
  | 2 => ⟨_, so_iinc (i := 3) (n := 1) (by decide +kernel) (by decide +kernel),
    ⟨_, so_goto (pc' := 0) (t := 1) (off := -58) (by decide +kernel) rfl,
    trivial⟩⟩
  | 3 => ⟨_, so_iload_n (i := 2) (k := 2) (by decide +kernel) rfl,
    ⟨_, so_iret (pc' := 0) rfl (by decide +kernel),
    trivial⟩⟩
  | _ + 4 => trivial
def c_He_agreeBy : List (List Op) := [
  [op_aload 0, op_getr SC 2 1, op_ci (-1), op_invS SC m_Jd_fill 2, op_ci (0), op_istore 2, op_goto 1],
  [op_iload 2, op_aload 0, op_getr SC 2 0, op_invV SC m_Co_places 1 0, op_icge 3, op_aload 0, op_getr SC 2 1, op_iload 2, op_iald SC, op_ci (-1), op_icne 2, op_aload 0, op_getr SC 2 1, op_iload 2, op_iload 2, op_iast SC, op_aload 0, op_getr SC 2 2, op_iload 2, op_ci (100), op_iast SC, op_aload 0, op_iload 1, op_invV SC m_He_spread 2 1, op_goto 2],
  [op_iinc 2 (1), op_goto 1],
  [op_ci (0), op_istore 2, op_goto 4],
  [op_iload 2, op_aload 0, op_getr SC 2 0, op_invV SC m_Co_roads 1 0, op_icge 6, op_iload 1, op_ci (1), op_iload 2, op_ishl, op_iand, op_ifeq 5, op_aload 0, op_iload 2, op_invV SC m_He_suits 2 1, op_ifne 5, op_ci (0), op_zret],
  [op_iinc 2 (1), op_goto 4],
  [op_ci (1), op_zret]]
def t_He_agreeBy : Nat → Nat := fun t => [0, 10, 51, 57, 59, 88, 94].getD t 0
set_option maxRecDepth 100000 in
theorem ok_He_agreeBy : MOK SC m_He_agreeBy c_He_agreeBy t_He_agreeBy := fun t => match t with
  | 0 => ⟨_, so_aload_n (i := 0) (k := 0) (by decide +kernel) rfl,
    ⟨_, so_getr (ci := 2) (k := 1) (index := 9) rfl CF_2 (by decide +kernel) (fun _ _ _ => rfl) tw_292 rfl (by decide +kernel),
    ⟨_, so_iconst (n := (-1)) (by decide +kernel) ⟨by decide, by decide⟩,
    ⟨_, so_invS (mi' := m_Jd_fill) (n := 2) (index := 59) tw_767 ⟨tw_768, tw_83, ⟨by decide +kernel, by decide +kernel, by decide +kernel⟩, by decide +kernel⟩ tw_846 (by decide +kernel),
    ⟨_, so_iconst (n := (0)) (by decide +kernel) ⟨by decide, by decide⟩,
    ⟨_, so_istore_n (i := 2) (k := 2) (by decide +kernel) rfl (by decide +kernel),
    ⟨_, so_fall (pc' := 0) (t := 1) rfl,
    trivial⟩⟩⟩⟩⟩⟩⟩
  | 1 => ⟨_, so_iload_n (i := 2) (k := 2) (by decide +kernel) rfl,
    ⟨_, so_aload_n (i := 0) (k := 0) (by decide +kernel) rfl,
    ⟨_, so_getr (ci := 2) (k := 0) (index := 18) rfl CF_2 (by decide +kernel) (fun _ _ _ => rfl) tw_291 rfl (by decide +kernel),
    ⟨_, so_invV (mi' := m_Co_places) (ci := 1) (n := 0) (index := 65) rfl rfl tw_788 tw_789 ⟨tw_790, tw_67, ⟨by decide +kernel, by decide +kernel, by decide +kernel⟩, by decide +kernel⟩ tw_847 (by decide +kernel),
    ⟨_, so_icge (t := 3) (off := 39) (by decide +kernel) rfl,
    ⟨_, so_aload_n (i := 0) (k := 0) (by decide +kernel) rfl,
    ⟨_, so_getr (ci := 2) (k := 1) (index := 9) rfl CF_2 (by decide +kernel) (fun _ _ _ => rfl) tw_292 rfl (by decide +kernel),
    ⟨_, so_iload_n (i := 2) (k := 2) (by decide +kernel) rfl,
    ⟨_, so_iald rfl (by decide +kernel),
    ⟨_, so_iconst (n := (-1)) (by decide +kernel) ⟨by decide, by decide⟩,
    ⟨_, so_icne (t := 2) (off := 23) (by decide +kernel) rfl,
    ⟨_, so_aload_n (i := 0) (k := 0) (by decide +kernel) rfl,
    ⟨_, so_getr (ci := 2) (k := 1) (index := 9) rfl CF_2 (by decide +kernel) (fun _ _ _ => rfl) tw_292 rfl (by decide +kernel),
    ⟨_, so_iload_n (i := 2) (k := 2) (by decide +kernel) rfl,
    ⟨_, so_iload_n (i := 2) (k := 2) (by decide +kernel) rfl,
    ⟨_, so_iast rfl (by decide +kernel),
    ⟨_, so_aload_n (i := 0) (k := 0) (by decide +kernel) rfl,
    ⟨_, so_getr (ci := 2) (k := 2) (index := 15) rfl CF_2 (by decide +kernel) (fun _ _ _ => rfl) tw_293 rfl (by decide +kernel),
    ⟨_, so_iload_n (i := 2) (k := 2) (by decide +kernel) rfl,
    ⟨_, so_bipush (n := (100)) (by decide +kernel) (by decide +kernel) ⟨by decide, by decide⟩,
    ⟨_, so_iast rfl (by decide +kernel),
    ⟨_, so_aload_n (i := 0) (k := 0) (by decide +kernel) rfl,
    ⟨_, so_iload_n (i := 1) (k := 1) (by decide +kernel) rfl,
    ⟨_, so_invV (mi' := m_He_spread) (ci := 2) (n := 1) (index := 68) rfl rfl tw_850 tw_16 ⟨tw_851, tw_72, ⟨by decide +kernel, by decide +kernel, by decide +kernel⟩, by decide +kernel⟩ tw_848 (by decide +kernel),
    ⟨_, so_fall (pc' := 0) (t := 2) rfl,
    trivial⟩⟩⟩⟩⟩⟩⟩⟩⟩⟩⟩⟩⟩⟩⟩⟩⟩⟩⟩⟩⟩⟩⟩⟩⟩
  | 2 => ⟨_, so_iinc (i := 2) (n := 1) (by decide +kernel) (by decide +kernel),
    ⟨_, so_goto (pc' := 0) (t := 1) (off := -44) (by decide +kernel) rfl,
    trivial⟩⟩
  | 3 => ⟨_, so_iconst (n := (0)) (by decide +kernel) ⟨by decide, by decide⟩,
    ⟨_, so_istore_n (i := 2) (k := 2) (by decide +kernel) rfl (by decide +kernel),
    ⟨_, so_fall (pc' := 0) (t := 4) rfl,
    trivial⟩⟩⟩
  | 4 => ⟨_, so_iload_n (i := 2) (k := 2) (by decide +kernel) rfl,
    ⟨_, so_aload_n (i := 0) (k := 0) (by decide +kernel) rfl,
    ⟨_, so_getr (ci := 2) (k := 0) (index := 18) rfl CF_2 (by decide +kernel) (fun _ _ _ => rfl) tw_291 rfl (by decide +kernel),
    ⟨_, so_invV (mi' := m_Co_roads) (ci := 1) (n := 0) (index := 44) rfl rfl tw_617 tw_618 ⟨tw_619, tw_67, ⟨by decide +kernel, by decide +kernel, by decide +kernel⟩, by decide +kernel⟩ tw_852 (by decide +kernel),
    ⟨_, so_icge (t := 6) (off := 27) (by decide +kernel) rfl,
    ⟨_, so_iload_n (i := 1) (k := 1) (by decide +kernel) rfl,
    ⟨_, so_iconst (n := (1)) (by decide +kernel) ⟨by decide, by decide⟩,
    ⟨_, so_iload_n (i := 2) (k := 2) (by decide +kernel) rfl,
    ⟨_, so_ishl (by decide +kernel),
    ⟨_, so_iand (by decide +kernel),
    ⟨_, so_ifeq (t := 5) (off := 13) (by decide +kernel) rfl,
    ⟨_, so_aload_n (i := 0) (k := 0) (by decide +kernel) rfl,
    ⟨_, so_iload_n (i := 2) (k := 2) (by decide +kernel) rfl,
    ⟨_, so_invV (mi' := m_He_suits) (ci := 2) (n := 1) (index := 72) rfl rfl tw_864 tw_18 ⟨tw_865, tw_72, ⟨by decide +kernel, by decide +kernel, by decide +kernel⟩, by decide +kernel⟩ tw_862 (by decide +kernel),
    ⟨_, so_ifne (t := 5) (off := 5) (by decide +kernel) rfl,
    ⟨_, so_iconst (n := (0)) (by decide +kernel) ⟨by decide, by decide⟩,
    ⟨_, so_zret (pc' := 0) rfl (by decide +kernel),
    trivial⟩⟩⟩⟩⟩⟩⟩⟩⟩⟩⟩⟩⟩⟩⟩⟩⟩
  | 5 => ⟨_, so_iinc (i := 2) (n := 1) (by decide +kernel) (by decide +kernel),
    ⟨_, so_goto (pc' := 0) (t := 4) (off := -32) (by decide +kernel) rfl,
    trivial⟩⟩
  | 6 => ⟨_, so_iconst (n := (1)) (by decide +kernel) ⟨by decide, by decide⟩,
    ⟨_, so_zret (pc' := 0) rfl (by decide +kernel),
    trivial⟩⟩
  | _ + 7 => trivial
def c_He_spread : List (List Op) := [
  [op_ci (1), op_istore 2, op_ci (0), op_istore 3, op_goto 1],
  [op_iload 3, op_aload 0, op_getr SC 2 0, op_invV SC m_Co_places 1 0, op_icge 6, op_iload 2, op_ifeq 6, op_ci (0), op_istore 2, op_ci (0), op_istore 4, op_goto 2],
  [op_iload 4, op_aload 0, op_getr SC 2 0, op_invV SC m_Co_roads 1 0, op_icge 5, op_iload 1, op_ci (1), op_iload 4, op_ishl, op_iand, op_ifeq 4, op_aload 0, op_iload 4, op_aload 0, op_getr SC 2 0, op_iload 4, op_invV SC m_Co_startOf 1 1, op_invV SC m_He_carry 2 2, op_ifne 3, op_aload 0, op_iload 4, op_aload 0, op_getr SC 2 0, op_iload 4, op_invV SC m_Co_endOf 1 1, op_invV SC m_He_carry 2 2, op_ifeq 4, op_goto 3],
  [op_ci (1), op_istore 2, op_goto 4],
  [op_iinc 4 (1), op_goto 2],
  [op_iinc 3 (1), op_goto 1],
  [op_ret]]
def t_He_spread : Nat → Nat := fun t => [0, 4, 24, 81, 83, 89, 95].getD t 0
set_option maxRecDepth 100000 in
theorem ok_He_spread : MOK SC m_He_spread c_He_spread t_He_spread := fun t => match t with
  | 0 => ⟨_, so_iconst (n := (1)) (by decide +kernel) ⟨by decide, by decide⟩,
    ⟨_, so_istore_n (i := 2) (k := 2) (by decide +kernel) rfl (by decide +kernel),
    ⟨_, so_iconst (n := (0)) (by decide +kernel) ⟨by decide, by decide⟩,
    ⟨_, so_istore_n (i := 3) (k := 3) (by decide +kernel) rfl (by decide +kernel),
    ⟨_, so_fall (pc' := 0) (t := 1) rfl,
    trivial⟩⟩⟩⟩⟩
  | 1 => ⟨_, so_iload_n (i := 3) (k := 3) (by decide +kernel) rfl,
    ⟨_, so_aload_n (i := 0) (k := 0) (by decide +kernel) rfl,
    ⟨_, so_getr (ci := 2) (k := 0) (index := 18) rfl CF_2 (by decide +kernel) (fun _ _ _ => rfl) tw_291 rfl (by decide +kernel),
    ⟨_, so_invV (mi' := m_Co_places) (ci := 1) (n := 0) (index := 65) rfl rfl tw_788 tw_789 ⟨tw_790, tw_67, ⟨by decide +kernel, by decide +kernel, by decide +kernel⟩, by decide +kernel⟩ tw_847 (by decide +kernel),
    ⟨_, so_icge (t := 6) (off := 83) (by decide +kernel) rfl,
    ⟨_, so_iload_n (i := 2) (k := 2) (by decide +kernel) rfl,
    ⟨_, so_ifeq (t := 6) (off := 79) (by decide +kernel) rfl,
    ⟨_, so_iconst (n := (0)) (by decide +kernel) ⟨by decide, by decide⟩,
    ⟨_, so_istore_n (i := 2) (k := 2) (by decide +kernel) rfl (by decide +kernel),
    ⟨_, so_iconst (n := (0)) (by decide +kernel) ⟨by decide, by decide⟩,
    ⟨_, so_istore (i := 4) (by decide +kernel) (by decide +kernel),
    ⟨_, so_fall (pc' := 0) (t := 2) rfl,
    trivial⟩⟩⟩⟩⟩⟩⟩⟩⟩⟩⟩⟩
  | 2 => ⟨_, so_iload (i := 4) (by decide +kernel),
    ⟨_, so_aload_n (i := 0) (k := 0) (by decide +kernel) rfl,
    ⟨_, so_getr (ci := 2) (k := 0) (index := 18) rfl CF_2 (by decide +kernel) (fun _ _ _ => rfl) tw_291 rfl (by decide +kernel),
    ⟨_, so_invV (mi' := m_Co_roads) (ci := 1) (n := 0) (index := 44) rfl rfl tw_617 tw_618 ⟨tw_619, tw_67, ⟨by decide +kernel, by decide +kernel, by decide +kernel⟩, by decide +kernel⟩ tw_852 (by decide +kernel),
    ⟨_, so_icge (t := 5) (off := 56) (by decide +kernel) rfl,
    ⟨_, so_iload_n (i := 1) (k := 1) (by decide +kernel) rfl,
    ⟨_, so_iconst (n := (1)) (by decide +kernel) ⟨by decide, by decide⟩,
    ⟨_, so_iload (i := 4) (by decide +kernel),
    ⟨_, so_ishl (by decide +kernel),
    ⟨_, so_iand (by decide +kernel),
    ⟨_, so_ifeq (t := 4) (off := 41) (by decide +kernel) rfl,
    ⟨_, so_aload_n (i := 0) (k := 0) (by decide +kernel) rfl,
    ⟨_, so_iload (i := 4) (by decide +kernel),
    ⟨_, so_aload_n (i := 0) (k := 0) (by decide +kernel) rfl,
    ⟨_, so_getr (ci := 2) (k := 0) (index := 18) rfl CF_2 (by decide +kernel) (fun _ _ _ => rfl) tw_291 rfl (by decide +kernel),
    ⟨_, so_iload (i := 4) (by decide +kernel),
    ⟨_, so_invV (mi' := m_Co_startOf) (ci := 1) (n := 1) (index := 75) rfl rfl tw_630 tw_631 ⟨tw_632, tw_67, ⟨by decide +kernel, by decide +kernel, by decide +kernel⟩, by decide +kernel⟩ tw_853 (by decide +kernel),
    ⟨_, so_invV (mi' := m_He_carry) (ci := 2) (n := 2) (index := 78) rfl rfl tw_856 tw_17 ⟨tw_857, tw_72, ⟨by decide +kernel, by decide +kernel, by decide +kernel⟩, by decide +kernel⟩ tw_854 (by decide +kernel),
    ⟨_, so_ifne (t := 3) (off := 21) (by decide +kernel) rfl,
    ⟨_, so_aload_n (i := 0) (k := 0) (by decide +kernel) rfl,
    ⟨_, so_iload (i := 4) (by decide +kernel),
    ⟨_, so_aload_n (i := 0) (k := 0) (by decide +kernel) rfl,
    ⟨_, so_getr (ci := 2) (k := 0) (index := 18) rfl CF_2 (by decide +kernel) (fun _ _ _ => rfl) tw_291 rfl (by decide +kernel),
    ⟨_, so_iload (i := 4) (by decide +kernel),
    ⟨_, so_invV (mi' := m_Co_endOf) (ci := 1) (n := 1) (index := 82) rfl rfl tw_634 tw_635 ⟨tw_636, tw_67, ⟨by decide +kernel, by decide +kernel, by decide +kernel⟩, by decide +kernel⟩ tw_861 (by decide +kernel),
    ⟨_, so_invV (mi' := m_He_carry) (ci := 2) (n := 2) (index := 78) rfl rfl tw_856 tw_17 ⟨tw_857, tw_72, ⟨by decide +kernel, by decide +kernel, by decide +kernel⟩, by decide +kernel⟩ tw_854 (by decide +kernel),
    ⟨_, so_ifeq (t := 4) (off := 5) (by decide +kernel) rfl,
    ⟨_, so_fall (pc' := 0) (t := 3) rfl,
    trivial⟩⟩⟩⟩⟩⟩⟩⟩⟩⟩⟩⟩⟩⟩⟩⟩⟩⟩⟩⟩⟩⟩⟩⟩⟩⟩⟩⟩
  | 3 => ⟨_, so_iconst (n := (1)) (by decide +kernel) ⟨by decide, by decide⟩,
    ⟨_, so_istore_n (i := 2) (k := 2) (by decide +kernel) rfl (by decide +kernel),
    ⟨_, so_fall (pc' := 0) (t := 4) rfl,
    trivial⟩⟩⟩
  | 4 => ⟨_, so_iinc (i := 4) (n := 1) (by decide +kernel) (by decide +kernel),
    ⟨_, so_goto (pc' := 0) (t := 2) (off := -62) (by decide +kernel) rfl,
    trivial⟩⟩
  | 5 => ⟨_, so_iinc (i := 3) (n := 1) (by decide +kernel) (by decide +kernel),
    ⟨_, so_goto (pc' := 0) (t := 1) (off := -88) (by decide +kernel) rfl,
    trivial⟩⟩
  | 6 => ⟨_, so_ret (pc' := 0) rfl (by decide +kernel),
    trivial⟩
  | _ + 7 => trivial
def c_He_carry : List (List Op) := [
  [op_aload 0, op_getr SC 2 0, op_iload 1, op_iload 2, op_invV SC m_Co_otherEnd 1 2, op_istore 3, op_aload 0, op_getr SC 2 0, op_iload 2, op_invV SC m_Co_hasPlace 1 1, op_ifeq 1, op_aload 0, op_getr SC 2 0, op_iload 3, op_invV SC m_Co_hasPlace 1 1, op_ifne 2, op_goto 1],
  [op_ci (0), op_zret],
  [op_aload 0, op_getr SC 2 1, op_iload 2, op_iald SC, op_ci (-1), op_iceq 3, op_aload 0, op_getr SC 2 1, op_iload 3, op_iald SC, op_ci (-1), op_iceq 4, op_goto 3],
  [op_ci (0), op_zret],
  [op_aload 0, op_getr SC 2 1, op_iload 3, op_aload 0, op_getr SC 2 1, op_iload 2, op_iald SC, op_iast SC, op_aload 0, op_getr SC 2 2, op_iload 3, op_aload 0, op_getr SC 2 2, op_iload 2, op_iald SC, op_aload 0, op_getr SC 2 0, op_iload 1, op_iload 2, op_invV SC m_Co_changeFrom 1 2, op_iadd, op_iast SC, op_ci (1), op_zret]]
def t_He_carry : Nat → Nat := fun t => [0, 32, 34, 54, 56].getD t 0
set_option maxRecDepth 100000 in
theorem ok_He_carry : MOK SC m_He_carry c_He_carry t_He_carry := fun t => match t with
  | 0 => ⟨_, so_aload_n (i := 0) (k := 0) (by decide +kernel) rfl,
    ⟨_, so_getr (ci := 2) (k := 0) (index := 18) rfl CF_2 (by decide +kernel) (fun _ _ _ => rfl) tw_291 rfl (by decide +kernel),
    ⟨_, so_iload_n (i := 1) (k := 1) (by decide +kernel) rfl,
    ⟨_, so_iload_n (i := 2) (k := 2) (by decide +kernel) rfl,
    ⟨_, so_invV (mi' := m_Co_otherEnd) (ci := 1) (n := 2) (index := 85) rfl rfl tw_683 tw_684 ⟨tw_685, tw_67, ⟨by decide +kernel, by decide +kernel, by decide +kernel⟩, by decide +kernel⟩ tw_858 (by decide +kernel),
    ⟨_, so_istore_n (i := 3) (k := 3) (by decide +kernel) rfl (by decide +kernel),
    ⟨_, so_aload_n (i := 0) (k := 0) (by decide +kernel) rfl,
    ⟨_, so_getr (ci := 2) (k := 0) (index := 18) rfl CF_2 (by decide +kernel) (fun _ _ _ => rfl) tw_291 rfl (by decide +kernel),
    ⟨_, so_iload_n (i := 2) (k := 2) (by decide +kernel) rfl,
    ⟨_, so_invV (mi' := m_Co_hasPlace) (ci := 1) (n := 1) (index := 32) rfl rfl tw_522 tw_523 ⟨tw_524, tw_67, ⟨by decide +kernel, by decide +kernel, by decide +kernel⟩, by decide +kernel⟩ tw_859 (by decide +kernel),
    ⟨_, so_ifeq (t := 1) (off := 14) (by decide +kernel) rfl,
    ⟨_, so_aload_n (i := 0) (k := 0) (by decide +kernel) rfl,
    ⟨_, so_getr (ci := 2) (k := 0) (index := 18) rfl CF_2 (by decide +kernel) (fun _ _ _ => rfl) tw_291 rfl (by decide +kernel),
    ⟨_, so_iload_n (i := 3) (k := 3) (by decide +kernel) rfl,
    ⟨_, so_invV (mi' := m_Co_hasPlace) (ci := 1) (n := 1) (index := 32) rfl rfl tw_522 tw_523 ⟨tw_524, tw_67, ⟨by decide +kernel, by decide +kernel, by decide +kernel⟩, by decide +kernel⟩ tw_859 (by decide +kernel),
    ⟨_, so_ifne (t := 2) (off := 5) (by decide +kernel) rfl,
    ⟨_, so_fall (pc' := 0) (t := 1) rfl,
    trivial⟩⟩⟩⟩⟩⟩⟩⟩⟩⟩⟩⟩⟩⟩⟩⟩⟩
  | 1 => ⟨_, so_iconst (n := (0)) (by decide +kernel) ⟨by decide, by decide⟩,
    ⟨_, so_zret (pc' := 0) rfl (by decide +kernel),
    trivial⟩⟩
  | 2 => ⟨_, so_aload_n (i := 0) (k := 0) (by decide +kernel) rfl,
    ⟨_, so_getr (ci := 2) (k := 1) (index := 9) rfl CF_2 (by decide +kernel) (fun _ _ _ => rfl) tw_292 rfl (by decide +kernel),
    ⟨_, so_iload_n (i := 2) (k := 2) (by decide +kernel) rfl,
    ⟨_, so_iald rfl (by decide +kernel),
    ⟨_, so_iconst (n := (-1)) (by decide +kernel) ⟨by decide, by decide⟩,
    ⟨_, so_iceq (t := 3) (off := 13) (by decide +kernel) rfl,
    ⟨_, so_aload_n (i := 0) (k := 0) (by decide +kernel) rfl,
    ⟨_, so_getr (ci := 2) (k := 1) (index := 9) rfl CF_2 (by decide +kernel) (fun _ _ _ => rfl) tw_292 rfl (by decide +kernel),
    ⟨_, so_iload_n (i := 3) (k := 3) (by decide +kernel) rfl,
    ⟨_, so_iald rfl (by decide +kernel),
    ⟨_, so_iconst (n := (-1)) (by decide +kernel) ⟨by decide, by decide⟩,
    ⟨_, so_iceq (t := 4) (off := 5) (by decide +kernel) rfl,
    ⟨_, so_fall (pc' := 0) (t := 3) rfl,
    trivial⟩⟩⟩⟩⟩⟩⟩⟩⟩⟩⟩⟩⟩
  | 3 => ⟨_, so_iconst (n := (0)) (by decide +kernel) ⟨by decide, by decide⟩,
    ⟨_, so_zret (pc' := 0) rfl (by decide +kernel),
    trivial⟩⟩
  | 4 => ⟨_, so_aload_n (i := 0) (k := 0) (by decide +kernel) rfl,
    ⟨_, so_getr (ci := 2) (k := 1) (index := 9) rfl CF_2 (by decide +kernel) (fun _ _ _ => rfl) tw_292 rfl (by decide +kernel),
    ⟨_, so_iload_n (i := 3) (k := 3) (by decide +kernel) rfl,
    ⟨_, so_aload_n (i := 0) (k := 0) (by decide +kernel) rfl,
    ⟨_, so_getr (ci := 2) (k := 1) (index := 9) rfl CF_2 (by decide +kernel) (fun _ _ _ => rfl) tw_292 rfl (by decide +kernel),
    ⟨_, so_iload_n (i := 2) (k := 2) (by decide +kernel) rfl,
    ⟨_, so_iald rfl (by decide +kernel),
    ⟨_, so_iast rfl (by decide +kernel),
    ⟨_, so_aload_n (i := 0) (k := 0) (by decide +kernel) rfl,
    ⟨_, so_getr (ci := 2) (k := 2) (index := 15) rfl CF_2 (by decide +kernel) (fun _ _ _ => rfl) tw_293 rfl (by decide +kernel),
    ⟨_, so_iload_n (i := 3) (k := 3) (by decide +kernel) rfl,
    ⟨_, so_aload_n (i := 0) (k := 0) (by decide +kernel) rfl,
    ⟨_, so_getr (ci := 2) (k := 2) (index := 15) rfl CF_2 (by decide +kernel) (fun _ _ _ => rfl) tw_293 rfl (by decide +kernel),
    ⟨_, so_iload_n (i := 2) (k := 2) (by decide +kernel) rfl,
    ⟨_, so_iald rfl (by decide +kernel),
    ⟨_, so_aload_n (i := 0) (k := 0) (by decide +kernel) rfl,
    ⟨_, so_getr (ci := 2) (k := 0) (index := 18) rfl CF_2 (by decide +kernel) (fun _ _ _ => rfl) tw_291 rfl (by decide +kernel),
    ⟨_, so_iload_n (i := 1) (k := 1) (by decide +kernel) rfl,
    ⟨_, so_iload_n (i := 2) (k := 2) (by decide +kernel) rfl,
    ⟨_, so_invV (mi' := m_Co_changeFrom) (ci := 1) (n := 2) (index := 89) rfl rfl tw_667 tw_668 ⟨tw_669, tw_67, ⟨by decide +kernel, by decide +kernel, by decide +kernel⟩, by decide +kernel⟩ tw_860 (by decide +kernel),
    ⟨_, so_iadd (by decide +kernel),
    ⟨_, so_iast rfl (by decide +kernel),
    ⟨_, so_iconst (n := (1)) (by decide +kernel) ⟨by decide, by decide⟩,
    ⟨_, so_zret (pc' := 0) rfl (by decide +kernel),
    trivial⟩⟩⟩⟩⟩⟩⟩⟩⟩⟩⟩⟩⟩⟩⟩⟩⟩⟩⟩⟩⟩⟩⟩⟩
  | _ + 5 => trivial
def c_He_suits : List (List Op) := [
  [op_aload 0, op_getr SC 2 0, op_iload 1, op_invV SC m_Co_startOf 1 1, op_istore 2, op_aload 0, op_getr SC 2 0, op_iload 1, op_invV SC m_Co_endOf 1 1, op_istore 3, op_aload 0, op_iload 3, op_invV SC m_He_of 2 1, op_aload 0, op_iload 2, op_invV SC m_He_of 2 1, op_isub, op_istore 4, op_aload 0, op_getr SC 2 0, op_iload 1, op_iload 2, op_invV SC m_Co_changeFrom 1 2, op_iload 4, op_icne 1, op_aload 0, op_getr SC 2 0, op_iload 1, op_iload 3, op_invV SC m_Co_changeFrom 1 2, op_iload 4, op_ineg, op_icne 1, op_ci (1), op_goto 2],
  [op_ci (0), op_goto 2],
  [op_zret]]
def t_He_suits : Nat → Nat := fun t => [0, 64, 65].getD t 0
set_option maxRecDepth 100000 in
theorem ok_He_suits : MOK SC m_He_suits c_He_suits t_He_suits := fun t => match t with
  | 0 => ⟨_, so_aload_n (i := 0) (k := 0) (by decide +kernel) rfl,
    ⟨_, so_getr (ci := 2) (k := 0) (index := 18) rfl CF_2 (by decide +kernel) (fun _ _ _ => rfl) tw_291 rfl (by decide +kernel),
    ⟨_, so_iload_n (i := 1) (k := 1) (by decide +kernel) rfl,
    ⟨_, so_invV (mi' := m_Co_startOf) (ci := 1) (n := 1) (index := 75) rfl rfl tw_630 tw_631 ⟨tw_632, tw_67, ⟨by decide +kernel, by decide +kernel, by decide +kernel⟩, by decide +kernel⟩ tw_853 (by decide +kernel),
    ⟨_, so_istore_n (i := 2) (k := 2) (by decide +kernel) rfl (by decide +kernel),
    ⟨_, so_aload_n (i := 0) (k := 0) (by decide +kernel) rfl,
    ⟨_, so_getr (ci := 2) (k := 0) (index := 18) rfl CF_2 (by decide +kernel) (fun _ _ _ => rfl) tw_291 rfl (by decide +kernel),
    ⟨_, so_iload_n (i := 1) (k := 1) (by decide +kernel) rfl,
    ⟨_, so_invV (mi' := m_Co_endOf) (ci := 1) (n := 1) (index := 82) rfl rfl tw_634 tw_635 ⟨tw_636, tw_67, ⟨by decide +kernel, by decide +kernel, by decide +kernel⟩, by decide +kernel⟩ tw_861 (by decide +kernel),
    ⟨_, so_istore_n (i := 3) (k := 3) (by decide +kernel) rfl (by decide +kernel),
    ⟨_, so_aload_n (i := 0) (k := 0) (by decide +kernel) rfl,
    ⟨_, so_iload_n (i := 3) (k := 3) (by decide +kernel) rfl,
    ⟨_, so_invV (mi' := m_He_of) (ci := 2) (n := 1) (index := 92) rfl rfl tw_867 tw_868 ⟨tw_869, tw_72, ⟨by decide +kernel, by decide +kernel, by decide +kernel⟩, by decide +kernel⟩ tw_866 (by decide +kernel),
    ⟨_, so_aload_n (i := 0) (k := 0) (by decide +kernel) rfl,
    ⟨_, so_iload_n (i := 2) (k := 2) (by decide +kernel) rfl,
    ⟨_, so_invV (mi' := m_He_of) (ci := 2) (n := 1) (index := 92) rfl rfl tw_867 tw_868 ⟨tw_869, tw_72, ⟨by decide +kernel, by decide +kernel, by decide +kernel⟩, by decide +kernel⟩ tw_866 (by decide +kernel),
    ⟨_, so_isub (by decide +kernel),
    ⟨_, so_istore (i := 4) (by decide +kernel) (by decide +kernel),
    ⟨_, so_aload_n (i := 0) (k := 0) (by decide +kernel) rfl,
    ⟨_, so_getr (ci := 2) (k := 0) (index := 18) rfl CF_2 (by decide +kernel) (fun _ _ _ => rfl) tw_291 rfl (by decide +kernel),
    ⟨_, so_iload_n (i := 1) (k := 1) (by decide +kernel) rfl,
    ⟨_, so_iload_n (i := 2) (k := 2) (by decide +kernel) rfl,
    ⟨_, so_invV (mi' := m_Co_changeFrom) (ci := 1) (n := 2) (index := 89) rfl rfl tw_667 tw_668 ⟨tw_669, tw_67, ⟨by decide +kernel, by decide +kernel, by decide +kernel⟩, by decide +kernel⟩ tw_860 (by decide +kernel),
    ⟨_, so_iload (i := 4) (by decide +kernel),
    ⟨_, so_icne (t := 1) (off := 22) (by decide +kernel) rfl,
    ⟨_, so_aload_n (i := 0) (k := 0) (by decide +kernel) rfl,
    ⟨_, so_getr (ci := 2) (k := 0) (index := 18) rfl CF_2 (by decide +kernel) (fun _ _ _ => rfl) tw_291 rfl (by decide +kernel),
    ⟨_, so_iload_n (i := 1) (k := 1) (by decide +kernel) rfl,
    ⟨_, so_iload_n (i := 3) (k := 3) (by decide +kernel) rfl,
    ⟨_, so_invV (mi' := m_Co_changeFrom) (ci := 1) (n := 2) (index := 89) rfl rfl tw_667 tw_668 ⟨tw_669, tw_67, ⟨by decide +kernel, by decide +kernel, by decide +kernel⟩, by decide +kernel⟩ tw_860 (by decide +kernel),
    ⟨_, so_iload (i := 4) (by decide +kernel),
    ⟨_, so_ineg (by decide +kernel),
    ⟨_, so_icne (t := 1) (off := 7) (by decide +kernel) rfl,
    ⟨_, so_iconst (n := (1)) (by decide +kernel) ⟨by decide, by decide⟩,
    ⟨_, so_goto (pc' := 0) (t := 2) (off := 4) (by decide +kernel) rfl,
    trivial⟩⟩⟩⟩⟩⟩⟩⟩⟩⟩⟩⟩⟩⟩⟩⟩⟩⟩⟩⟩⟩⟩⟩⟩⟩⟩⟩⟩⟩⟩⟩⟩⟩⟩⟩
  | 1 => ⟨_, so_iconst (n := (0)) (by decide +kernel) ⟨by decide, by decide⟩,
    ⟨_, so_fall (pc' := 0) (t := 2) rfl,
    trivial⟩⟩
  | 2 => ⟨_, so_zret (pc' := 0) rfl (by decide +kernel),
    trivial⟩
  | _ + 3 => trivial
def c_Le_init : List (List Op) := [
  [op_aload 0, op_oinit, op_aload 0, op_ci (200), op_newa SC .char, op_putr SC 3 0, op_ret]]
def t_Le_init : Nat → Nat := fun t => [0].getD t 0
set_option maxRecDepth 100000 in
theorem ok_Le_init : MOK SC m_Le_init c_Le_init t_Le_init := fun t => match t with
  | 0 => ⟨_, so_aload_n (i := 0) (k := 0) (by decide +kernel) rfl,
    ⟨_, so_oinit (index := 3) tw_98 tw_91 tw_92 (by decide +kernel) (by decide +kernel),
    ⟨_, so_aload_n (i := 0) (k := 0) (by decide +kernel) rfl,
    ⟨_, so_sipush (n := (200)) (by decide +kernel) (by decide +kernel) ⟨by decide, by decide⟩,
    ⟨_, so_newa (atype := .char) (ty := .char) rfl (by decide) tw_106 (by decide +kernel),
    ⟨_, so_putrF (ci := 3) (k := 0) (index := 9) rfl CF_3 (by decide +kernel) (Or.inr ⟨_, rfl⟩) tw_99 rfl rfl rfl rfl (by decide +kernel),
    ⟨_, so_ret (pc' := 0) rfl (by decide +kernel),
    trivial⟩⟩⟩⟩⟩⟩⟩
  | _ + 1 => trivial
def c_Le_append : List (List Op) := [
  [op_aload 0, op_geti SC 3 1, op_aload 0, op_getr SC 3 0, op_alen SC, op_iclt 1, op_ci (0), op_zret],
  [op_aload 0, op_getr SC 3 0, op_aload 0, op_geti SC 3 1, op_iload 1, op_cast SC, op_aload 0, op_dup, op_geti SC 3 1, op_ci (1), op_iadd, op_puti SC 3 1, op_ci (1), op_zret]]
def t_Le_append : Nat → Nat := fun t => [0, 14].getD t 0
set_option maxRecDepth 100000 in
theorem ok_Le_append : MOK SC m_Le_append c_Le_append t_Le_append := fun t => match t with
  | 0 => ⟨_, so_aload_n (i := 0) (k := 0) (by decide +kernel) rfl,
    ⟨_, so_geti (ci := 3) (k := 1) (index := 15) rfl CF_3 (by decide +kernel) (fun _ _ _ => rfl) tw_100 rfl (by decide +kernel),
    ⟨_, so_aload_n (i := 0) (k := 0) (by decide +kernel) rfl,
    ⟨_, so_getr (ci := 3) (k := 0) (index := 9) rfl CF_3 (by decide +kernel) (fun _ _ _ => rfl) tw_99 rfl (by decide +kernel),
    ⟨_, so_alen rfl (by decide +kernel),
    ⟨_, so_iclt (t := 1) (off := 5) (by decide +kernel) rfl,
    ⟨_, so_iconst (n := (0)) (by decide +kernel) ⟨by decide, by decide⟩,
    ⟨_, so_zret (pc' := 0) rfl (by decide +kernel),
    trivial⟩⟩⟩⟩⟩⟩⟩⟩
  | 1 => ⟨_, so_aload_n (i := 0) (k := 0) (by decide +kernel) rfl,
    ⟨_, so_getr (ci := 3) (k := 0) (index := 9) rfl CF_3 (by decide +kernel) (fun _ _ _ => rfl) tw_99 rfl (by decide +kernel),
    ⟨_, so_aload_n (i := 0) (k := 0) (by decide +kernel) rfl,
    ⟨_, so_geti (ci := 3) (k := 1) (index := 15) rfl CF_3 (by decide +kernel) (fun _ _ _ => rfl) tw_100 rfl (by decide +kernel),
    ⟨_, so_iload_n (i := 1) (k := 1) (by decide +kernel) rfl,
    ⟨_, so_cast rfl (by decide +kernel),
    ⟨_, so_aload_n (i := 0) (k := 0) (by decide +kernel) rfl,
    ⟨_, so_dup (by decide +kernel),
    ⟨_, so_geti (ci := 3) (k := 1) (index := 15) rfl CF_3 (by decide +kernel) (fun _ _ _ => rfl) tw_100 rfl (by decide +kernel),
    ⟨_, so_iconst (n := (1)) (by decide +kernel) ⟨by decide, by decide⟩,
    ⟨_, so_iadd (by decide +kernel),
    ⟨_, so_puti (ci := 3) (k := 1) (index := 15) rfl CF_3 (by decide +kernel) rfl tw_100 rfl rfl (by decide +kernel),
    ⟨_, so_iconst (n := (1)) (by decide +kernel) ⟨by decide, by decide⟩,
    ⟨_, so_zret (pc' := 0) rfl (by decide +kernel),
    trivial⟩⟩⟩⟩⟩⟩⟩⟩⟩⟩⟩⟩⟩⟩
  | _ + 2 => trivial
def c_Le_clear : List (List Op) := [
  [op_aload 0, op_ci (0), op_puti SC 3 1, op_ret]]
def t_Le_clear : Nat → Nat := fun t => [0].getD t 0
set_option maxRecDepth 100000 in
theorem ok_Le_clear : MOK SC m_Le_clear c_Le_clear t_Le_clear := fun t => match t with
  | 0 => ⟨_, so_aload_n (i := 0) (k := 0) (by decide +kernel) rfl,
    ⟨_, so_iconst (n := (0)) (by decide +kernel) ⟨by decide, by decide⟩,
    ⟨_, so_puti (ci := 3) (k := 1) (index := 15) rfl CF_3 (by decide +kernel) rfl tw_100 rfl rfl (by decide +kernel),
    ⟨_, so_ret (pc' := 0) rfl (by decide +kernel),
    trivial⟩⟩⟩⟩
  | _ + 1 => trivial
def c_Le_length : List (List Op) := [
  [op_aload 0, op_geti SC 3 1, op_iret]]
def t_Le_length : Nat → Nat := fun t => [0].getD t 0
set_option maxRecDepth 100000 in
theorem ok_Le_length : MOK SC m_Le_length c_Le_length t_Le_length := fun t => match t with
  | 0 => ⟨_, so_aload_n (i := 0) (k := 0) (by decide +kernel) rfl,
    ⟨_, so_geti (ci := 3) (k := 1) (index := 15) rfl CF_3 (by decide +kernel) (fun _ _ _ => rfl) tw_100 rfl (by decide +kernel),
    ⟨_, so_iret (pc' := 0) rfl (by decide +kernel),
    trivial⟩⟩⟩
  | _ + 1 => trivial
def c_Le_has : List (List Op) := [
  [op_iload 1, op_iflt 1, op_iload 1, op_aload 0, op_geti SC 3 1, op_icge 1, op_aload 0, op_getr SC 3 0, op_iload 1, op_cald SC, op_iload 2, op_icne 1, op_ci (1), op_goto 2],
  [op_ci (0), op_goto 2],
  [op_zret]]
def t_Le_has : Nat → Nat := fun t => [0, 26, 27].getD t 0
set_option maxRecDepth 100000 in
theorem ok_Le_has : MOK SC m_Le_has c_Le_has t_Le_has := fun t => match t with
  | 0 => ⟨_, so_iload_n (i := 1) (k := 1) (by decide +kernel) rfl,
    ⟨_, so_iflt (t := 1) (off := 25) (by decide +kernel) rfl,
    ⟨_, so_iload_n (i := 1) (k := 1) (by decide +kernel) rfl,
    ⟨_, so_aload_n (i := 0) (k := 0) (by decide +kernel) rfl,
    ⟨_, so_geti (ci := 3) (k := 1) (index := 15) rfl CF_3 (by decide +kernel) (fun _ _ _ => rfl) tw_100 rfl (by decide +kernel),
    ⟨_, so_icge (t := 1) (off := 17) (by decide +kernel) rfl,
    ⟨_, so_aload_n (i := 0) (k := 0) (by decide +kernel) rfl,
    ⟨_, so_getr (ci := 3) (k := 0) (index := 9) rfl CF_3 (by decide +kernel) (fun _ _ _ => rfl) tw_99 rfl (by decide +kernel),
    ⟨_, so_iload_n (i := 1) (k := 1) (by decide +kernel) rfl,
    ⟨_, so_cald rfl (by decide +kernel),
    ⟨_, so_iload_n (i := 2) (k := 2) (by decide +kernel) rfl,
    ⟨_, so_icne (t := 1) (off := 7) (by decide +kernel) rfl,
    ⟨_, so_iconst (n := (1)) (by decide +kernel) ⟨by decide, by decide⟩,
    ⟨_, so_goto (pc' := 0) (t := 2) (off := 4) (by decide +kernel) rfl,
    trivial⟩⟩⟩⟩⟩⟩⟩⟩⟩⟩⟩⟩⟩⟩
  | 1 => ⟨_, so_iconst (n := (0)) (by decide +kernel) ⟨by decide, by decide⟩,
    ⟨_, so_fall (pc' := 0) (t := 2) rfl,
    trivial⟩⟩
  | 2 => ⟨_, so_zret (pc' := 0) rfl (by decide +kernel),
    trivial⟩
  | _ + 3 => trivial
def c_Le_figureAt : List (List Op) := [
  [op_iload 1, op_iflt 1, op_iload 1, op_aload 0, op_geti SC 3 1, op_icge 1, op_aload 0, op_getr SC 3 0, op_iload 1, op_cald SC, op_ci (48), op_iclt 1, op_aload 0, op_getr SC 3 0, op_iload 1, op_cald SC, op_ci (57), op_icle 2, op_goto 1],
  [op_ci (-1), op_iret],
  [op_aload 0, op_getr SC 3 0, op_iload 1, op_cald SC, op_ci (48), op_isub, op_iret]]
def t_Le_figureAt : Nat → Nat := fun t => [0, 34, 36].getD t 0
set_option maxRecDepth 100000 in
theorem ok_Le_figureAt : MOK SC m_Le_figureAt c_Le_figureAt t_Le_figureAt := fun t => match t with
  | 0 => ⟨_, so_iload_n (i := 1) (k := 1) (by decide +kernel) rfl,
    ⟨_, so_iflt (t := 1) (off := 33) (by decide +kernel) rfl,
    ⟨_, so_iload_n (i := 1) (k := 1) (by decide +kernel) rfl,
    ⟨_, so_aload_n (i := 0) (k := 0) (by decide +kernel) rfl,
    ⟨_, so_geti (ci := 3) (k := 1) (index := 15) rfl CF_3 (by decide +kernel) (fun _ _ _ => rfl) tw_100 rfl (by decide +kernel),
    ⟨_, so_icge (t := 1) (off := 25) (by decide +kernel) rfl,
    ⟨_, so_aload_n (i := 0) (k := 0) (by decide +kernel) rfl,
    ⟨_, so_getr (ci := 3) (k := 0) (index := 9) rfl CF_3 (by decide +kernel) (fun _ _ _ => rfl) tw_99 rfl (by decide +kernel),
    ⟨_, so_iload_n (i := 1) (k := 1) (by decide +kernel) rfl,
    ⟨_, so_cald rfl (by decide +kernel),
    ⟨_, so_bipush (n := (48)) (by decide +kernel) (by decide +kernel) ⟨by decide, by decide⟩,
    ⟨_, so_iclt (t := 1) (off := 14) (by decide +kernel) rfl,
    ⟨_, so_aload_n (i := 0) (k := 0) (by decide +kernel) rfl,
    ⟨_, so_getr (ci := 3) (k := 0) (index := 9) rfl CF_3 (by decide +kernel) (fun _ _ _ => rfl) tw_99 rfl (by decide +kernel),
    ⟨_, so_iload_n (i := 1) (k := 1) (by decide +kernel) rfl,
    ⟨_, so_cald rfl (by decide +kernel),
    ⟨_, so_bipush (n := (57)) (by decide +kernel) (by decide +kernel) ⟨by decide, by decide⟩,
    ⟨_, so_icle (t := 2) (off := 5) (by decide +kernel) rfl,
    ⟨_, so_fall (pc' := 0) (t := 1) rfl,
    trivial⟩⟩⟩⟩⟩⟩⟩⟩⟩⟩⟩⟩⟩⟩⟩⟩⟩⟩⟩
  | 1 => ⟨_, so_iconst (n := (-1)) (by decide +kernel) ⟨by decide, by decide⟩,
    ⟨_, so_iret (pc' := 0) rfl (by decide +kernel),
    trivial⟩⟩
  | 2 => ⟨_, so_aload_n (i := 0) (k := 0) (by decide +kernel) rfl,
    ⟨_, so_getr (ci := 3) (k := 0) (index := 9) rfl CF_3 (by decide +kernel) (fun _ _ _ => rfl) tw_99 rfl (by decide +kernel),
    ⟨_, so_iload_n (i := 1) (k := 1) (by decide +kernel) rfl,
    ⟨_, so_cald rfl (by decide +kernel),
    ⟨_, so_bipush (n := (48)) (by decide +kernel) (by decide +kernel) ⟨by decide, by decide⟩,
    ⟨_, so_isub (by decide +kernel),
    ⟨_, so_iret (pc' := 0) rfl (by decide +kernel),
    trivial⟩⟩⟩⟩⟩⟩⟩
  | _ + 3 => trivial
def c_Pi_init : List (List Op) := [
  [op_aload 0, op_oinit, op_aload 0, op_iload 1, op_ifle 1, op_iload 1, op_goto 2],
  [op_ci (1), op_goto 2],
  [op_newq SC, op_putr SC 4 0, op_ci (0), op_istore 2, op_goto 3],
  [op_iload 2, op_aload 0, op_getr SC 4 0, op_alen SC, op_icge 4, op_aload 0, op_getr SC 4 0, op_iload 2, op_new SC 7 6, op_dup, op_invI SC m_St_init 0, op_aast SC, op_iinc 2 (1), op_goto 3],
  [op_ret]]
def t_Pi_init : Nat → Nat := fun t => [0, 13, 14, 22, 50].getD t 0
set_option maxRecDepth 100000 in
theorem ok_Pi_init : MOK SC m_Pi_init c_Pi_init t_Pi_init := fun t => match t with
  | 0 => ⟨_, so_aload_n (i := 0) (k := 0) (by decide +kernel) rfl,
    ⟨_, so_oinit (index := 1) tw_220 tw_91 tw_92 (by decide +kernel) (by decide +kernel),
    ⟨_, so_aload_n (i := 0) (k := 0) (by decide +kernel) rfl,
    ⟨_, so_iload_n (i := 1) (k := 1) (by decide +kernel) rfl,
    ⟨_, so_ifle (t := 1) (off := 7) (by decide +kernel) rfl,
    ⟨_, so_iload_n (i := 1) (k := 1) (by decide +kernel) rfl,
    ⟨_, so_goto (pc' := 0) (t := 2) (off := 4) (by decide +kernel) rfl,
    trivial⟩⟩⟩⟩⟩⟩⟩
  | 1 => ⟨_, so_iconst (n := (1)) (by decide +kernel) ⟨by decide, by decide⟩,
    ⟨_, so_fall (pc' := 0) (t := 2) rfl,
    trivial⟩⟩
  | 2 => ⟨_, so_newq (index := 7) tw_221 (by decide +kernel),
    ⟨_, so_putrF (ci := 4) (k := 0) (index := 9) rfl CF_4 (by decide +kernel) (Or.inr ⟨_, rfl⟩) tw_224 rfl rfl rfl rfl (by decide +kernel),
    ⟨_, so_iconst (n := (0)) (by decide +kernel) ⟨by decide, by decide⟩,
    ⟨_, so_istore_n (i := 2) (k := 2) (by decide +kernel) rfl (by decide +kernel),
    ⟨_, so_fall (pc' := 0) (t := 3) rfl,
    trivial⟩⟩⟩⟩⟩
  | 3 => ⟨_, so_iload_n (i := 2) (k := 2) (by decide +kernel) rfl,
    ⟨_, so_aload_n (i := 0) (k := 0) (by decide +kernel) rfl,
    ⟨_, so_getr (ci := 4) (k := 0) (index := 9) rfl CF_4 (by decide +kernel) (fun _ _ _ => rfl) tw_224 rfl (by decide +kernel),
    ⟨_, so_alen rfl (by decide +kernel),
    ⟨_, so_icge (t := 4) (off := 22) (by decide +kernel) rfl,
    ⟨_, so_aload_n (i := 0) (k := 0) (by decide +kernel) rfl,
    ⟨_, so_getr (ci := 4) (k := 0) (index := 9) rfl CF_4 (by decide +kernel) (fun _ _ _ => rfl) tw_224 rfl (by decide +kernel),
    ⟨_, so_iload_n (i := 2) (k := 2) (by decide +kernel) rfl,
    ⟨_, so_new (ci := 7) (index := 7) CF_7 (by decide +kernel) tw_221 tw_120 tw_68 (by decide +kernel),
    ⟨_, so_dup (by decide +kernel),
    ⟨_, so_invIN (mi' := m_St_init) (n := 0) (index := 15) tw_122 rfl rfl ⟨tw_123, tw_68, ⟨by decide +kernel, by decide +kernel, by decide +kernel⟩, by decide +kernel⟩ tw_223 (by decide +kernel),
    ⟨_, so_aast rfl (by decide +kernel),
    ⟨_, so_iinc (i := 2) (n := 1) (by decide +kernel) (by decide +kernel),
    ⟨_, so_goto (pc' := 0) (t := 3) (off := -25) (by decide +kernel) rfl,
    trivial⟩⟩⟩⟩⟩⟩⟩⟩⟩⟩⟩⟩⟩⟩
  | 4 => ⟨_, so_ret (pc' := 0) rfl (by decide +kernel),
    trivial⟩
  | _ + 5 => trivial
def c_Pi_size : List (List Op) := [
  [op_aload 0, op_geti SC 4 1, op_iret]]
def t_Pi_size : Nat → Nat := fun t => [0].getD t 0
set_option maxRecDepth 100000 in
theorem ok_Pi_size : MOK SC m_Pi_size c_Pi_size t_Pi_size := fun t => match t with
  | 0 => ⟨_, so_aload_n (i := 0) (k := 0) (by decide +kernel) rfl,
    ⟨_, so_geti (ci := 4) (k := 1) (index := 16) rfl CF_4 (by decide +kernel) (fun _ _ _ => rfl) tw_225 rfl (by decide +kernel),
    ⟨_, so_iret (pc' := 0) rfl (by decide +kernel),
    trivial⟩⟩⟩
  | _ + 1 => trivial
def c_Pi_isFull : List (List Op) := [
  [op_aload 0, op_geti SC 4 1, op_aload 0, op_getr SC 4 0, op_alen SC, op_iclt 1, op_ci (1), op_goto 2],
  [op_ci (0), op_goto 2],
  [op_zret]]
def t_Pi_isFull : Nat → Nat := fun t => [0, 16, 17].getD t 0
set_option maxRecDepth 100000 in
theorem ok_Pi_isFull : MOK SC m_Pi_isFull c_Pi_isFull t_Pi_isFull := fun t => match t with
  | 0 => ⟨_, so_aload_n (i := 0) (k := 0) (by decide +kernel) rfl,
    ⟨_, so_geti (ci := 4) (k := 1) (index := 16) rfl CF_4 (by decide +kernel) (fun _ _ _ => rfl) tw_225 rfl (by decide +kernel),
    ⟨_, so_aload_n (i := 0) (k := 0) (by decide +kernel) rfl,
    ⟨_, so_getr (ci := 4) (k := 0) (index := 9) rfl CF_4 (by decide +kernel) (fun _ _ _ => rfl) tw_224 rfl (by decide +kernel),
    ⟨_, so_alen rfl (by decide +kernel),
    ⟨_, so_iclt (t := 1) (off := 7) (by decide +kernel) rfl,
    ⟨_, so_iconst (n := (1)) (by decide +kernel) ⟨by decide, by decide⟩,
    ⟨_, so_goto (pc' := 0) (t := 2) (off := 4) (by decide +kernel) rfl,
    trivial⟩⟩⟩⟩⟩⟩⟩⟩
  | 1 => ⟨_, so_iconst (n := (0)) (by decide +kernel) ⟨by decide, by decide⟩,
    ⟨_, so_fall (pc' := 0) (t := 2) rfl,
    trivial⟩⟩
  | 2 => ⟨_, so_zret (pc' := 0) rfl (by decide +kernel),
    trivial⟩
  | _ + 3 => trivial
def c_Pi_clear : List (List Op) := [
  [op_aload 0, op_ci (0), op_puti SC 4 1, op_ret]]
def t_Pi_clear : Nat → Nat := fun t => [0].getD t 0
set_option maxRecDepth 100000 in
theorem ok_Pi_clear : MOK SC m_Pi_clear c_Pi_clear t_Pi_clear := fun t => match t with
  | 0 => ⟨_, so_aload_n (i := 0) (k := 0) (by decide +kernel) rfl,
    ⟨_, so_iconst (n := (0)) (by decide +kernel) ⟨by decide, by decide⟩,
    ⟨_, so_puti (ci := 4) (k := 1) (index := 16) rfl CF_4 (by decide +kernel) rfl tw_225 rfl rfl (by decide +kernel),
    ⟨_, so_ret (pc' := 0) rfl (by decide +kernel),
    trivial⟩⟩⟩⟩
  | _ + 1 => trivial
def c_Pi_push : List (List Op) := [
  [op_aload 0, op_invV SC m_Pi_isFull 4 0, op_ifeq 1, op_aload 0, op_invV SC m_Pi_dropOldest 4 0, op_goto 1],
  [op_aload 0, op_geti SC 4 1, op_aload 0, op_getr SC 4 0, op_alen SC, op_icge 2, op_aload 0, op_getr SC 4 0, op_aload 0, op_geti SC 4 1, op_aald SC, op_aload 1, op_invV SC m_St_copyFrom 7 1, op_aload 0, op_dup, op_geti SC 4 1, op_ci (1), op_iadd, op_puti SC 4 1, op_goto 2],
  [op_ret]]
def t_Pi_push : Nat → Nat := fun t => [0, 11, 46].getD t 0
set_option maxRecDepth 100000 in
theorem ok_Pi_push : MOK SC m_Pi_push c_Pi_push t_Pi_push := fun t => match t with
  | 0 => ⟨_, so_aload_n (i := 0) (k := 0) (by decide +kernel) rfl,
    ⟨_, so_invV (mi' := m_Pi_isFull) (ci := 4) (n := 0) (index := 20) rfl rfl tw_691 tw_692 ⟨tw_693, tw_69, ⟨by decide +kernel, by decide +kernel, by decide +kernel⟩, by decide +kernel⟩ tw_690 (by decide +kernel),
    ⟨_, so_ifeq (t := 1) (off := 7) (by decide +kernel) rfl,
    ⟨_, so_aload_n (i := 0) (k := 0) (by decide +kernel) rfl,
    ⟨_, so_invV (mi' := m_Pi_dropOldest) (ci := 4) (n := 0) (index := 24) rfl rfl tw_696 tw_7 ⟨tw_697, tw_69, ⟨by decide +kernel, by decide +kernel, by decide +kernel⟩, by decide +kernel⟩ tw_694 (by decide +kernel),
    ⟨_, so_fall (pc' := 0) (t := 1) rfl,
    trivial⟩⟩⟩⟩⟩⟩
  | 1 => ⟨_, so_aload_n (i := 0) (k := 0) (by decide +kernel) rfl,
    ⟨_, so_geti (ci := 4) (k := 1) (index := 16) rfl CF_4 (by decide +kernel) (fun _ _ _ => rfl) tw_225 rfl (by decide +kernel),
    ⟨_, so_aload_n (i := 0) (k := 0) (by decide +kernel) rfl,
    ⟨_, so_getr (ci := 4) (k := 0) (index := 9) rfl CF_4 (by decide +kernel) (fun _ _ _ => rfl) tw_224 rfl (by decide +kernel),
    ⟨_, so_alen rfl (by decide +kernel),
    ⟨_, so_icge (t := 2) (off := 26) (by decide +kernel) rfl,
    ⟨_, so_aload_n (i := 0) (k := 0) (by decide +kernel) rfl,
    ⟨_, so_getr (ci := 4) (k := 0) (index := 9) rfl CF_4 (by decide +kernel) (fun _ _ _ => rfl) tw_224 rfl (by decide +kernel),
    ⟨_, so_aload_n (i := 0) (k := 0) (by decide +kernel) rfl,
    ⟨_, so_geti (ci := 4) (k := 1) (index := 16) rfl CF_4 (by decide +kernel) (fun _ _ _ => rfl) tw_225 rfl (by decide +kernel),
    ⟨_, so_aald rfl (by decide +kernel),
    ⟨_, so_aload_n (i := 1) (k := 1) (by decide +kernel) rfl,
    ⟨_, so_invV (mi' := m_St_copyFrom) (ci := 7) (n := 1) (index := 27) rfl rfl tw_549 tw_550 ⟨tw_551, tw_68, ⟨by decide +kernel, by decide +kernel, by decide +kernel⟩, by decide +kernel⟩ tw_698 (by decide +kernel),
    ⟨_, so_aload_n (i := 0) (k := 0) (by decide +kernel) rfl,
    ⟨_, so_dup (by decide +kernel),
    ⟨_, so_geti (ci := 4) (k := 1) (index := 16) rfl CF_4 (by decide +kernel) (fun _ _ _ => rfl) tw_225 rfl (by decide +kernel),
    ⟨_, so_iconst (n := (1)) (by decide +kernel) ⟨by decide, by decide⟩,
    ⟨_, so_iadd (by decide +kernel),
    ⟨_, so_puti (ci := 4) (k := 1) (index := 16) rfl CF_4 (by decide +kernel) rfl tw_225 rfl rfl (by decide +kernel),
    ⟨_, so_fall (pc' := 0) (t := 2) rfl,
    trivial⟩⟩⟩⟩⟩⟩⟩⟩⟩⟩⟩⟩⟩⟩⟩⟩⟩⟩⟩⟩
  | 2 => ⟨_, so_ret (pc' := 0) rfl (by decide +kernel),
    trivial⟩
  | _ + 3 => trivial
def c_Pi_popInto : List (List Op) := [
  [op_aload 0, op_geti SC 4 1, op_ifle 1, op_aload 0, op_geti SC 4 1, op_aload 0, op_getr SC 4 0, op_alen SC, op_icle 2, op_goto 1],
  [op_ci (0), op_zret],
  [op_aload 0, op_dup, op_geti SC 4 1, op_ci (1), op_isub, op_puti SC 4 1, op_aload 1, op_aload 0, op_getr SC 4 0, op_aload 0, op_geti SC 4 1, op_aald SC, op_invV SC m_St_copyFrom 7 1, op_ci (1), op_zret]]
def t_Pi_popInto : Nat → Nat := fun t => [0, 19, 21].getD t 0
set_option maxRecDepth 100000 in
theorem ok_Pi_popInto : MOK SC m_Pi_popInto c_Pi_popInto t_Pi_popInto := fun t => match t with
  | 0 => ⟨_, so_aload_n (i := 0) (k := 0) (by decide +kernel) rfl,
    ⟨_, so_geti (ci := 4) (k := 1) (index := 16) rfl CF_4 (by decide +kernel) (fun _ _ _ => rfl) tw_225 rfl (by decide +kernel),
    ⟨_, so_ifle (t := 1) (off := 15) (by decide +kernel) rfl,
    ⟨_, so_aload_n (i := 0) (k := 0) (by decide +kernel) rfl,
    ⟨_, so_geti (ci := 4) (k := 1) (index := 16) rfl CF_4 (by decide +kernel) (fun _ _ _ => rfl) tw_225 rfl (by decide +kernel),
    ⟨_, so_aload_n (i := 0) (k := 0) (by decide +kernel) rfl,
    ⟨_, so_getr (ci := 4) (k := 0) (index := 9) rfl CF_4 (by decide +kernel) (fun _ _ _ => rfl) tw_224 rfl (by decide +kernel),
    ⟨_, so_alen rfl (by decide +kernel),
    ⟨_, so_icle (t := 2) (off := 5) (by decide +kernel) rfl,
    ⟨_, so_fall (pc' := 0) (t := 1) rfl,
    trivial⟩⟩⟩⟩⟩⟩⟩⟩⟩⟩
  | 1 => ⟨_, so_iconst (n := (0)) (by decide +kernel) ⟨by decide, by decide⟩,
    ⟨_, so_zret (pc' := 0) rfl (by decide +kernel),
    trivial⟩⟩
  | 2 => ⟨_, so_aload_n (i := 0) (k := 0) (by decide +kernel) rfl,
    ⟨_, so_dup (by decide +kernel),
    ⟨_, so_geti (ci := 4) (k := 1) (index := 16) rfl CF_4 (by decide +kernel) (fun _ _ _ => rfl) tw_225 rfl (by decide +kernel),
    ⟨_, so_iconst (n := (1)) (by decide +kernel) ⟨by decide, by decide⟩,
    ⟨_, so_isub (by decide +kernel),
    ⟨_, so_puti (ci := 4) (k := 1) (index := 16) rfl CF_4 (by decide +kernel) rfl tw_225 rfl rfl (by decide +kernel),
    ⟨_, so_aload_n (i := 1) (k := 1) (by decide +kernel) rfl,
    ⟨_, so_aload_n (i := 0) (k := 0) (by decide +kernel) rfl,
    ⟨_, so_getr (ci := 4) (k := 0) (index := 9) rfl CF_4 (by decide +kernel) (fun _ _ _ => rfl) tw_224 rfl (by decide +kernel),
    ⟨_, so_aload_n (i := 0) (k := 0) (by decide +kernel) rfl,
    ⟨_, so_geti (ci := 4) (k := 1) (index := 16) rfl CF_4 (by decide +kernel) (fun _ _ _ => rfl) tw_225 rfl (by decide +kernel),
    ⟨_, so_aald rfl (by decide +kernel),
    ⟨_, so_invV (mi' := m_St_copyFrom) (ci := 7) (n := 1) (index := 27) rfl rfl tw_549 tw_550 ⟨tw_551, tw_68, ⟨by decide +kernel, by decide +kernel, by decide +kernel⟩, by decide +kernel⟩ tw_698 (by decide +kernel),
    ⟨_, so_iconst (n := (1)) (by decide +kernel) ⟨by decide, by decide⟩,
    ⟨_, so_zret (pc' := 0) rfl (by decide +kernel),
    trivial⟩⟩⟩⟩⟩⟩⟩⟩⟩⟩⟩⟩⟩⟩⟩
  | _ + 3 => trivial
def c_Pi_dropOldest : List (List Op) := [
  [op_ci (1), op_istore 1, op_goto 1],
  [op_iload 1, op_aload 0, op_getr SC 4 0, op_alen SC, op_icge 2, op_aload 0, op_getr SC 4 0, op_iload 1, op_ci (1), op_isub, op_aald SC, op_astore 2, op_aload 0, op_getr SC 4 0, op_iload 1, op_ci (1), op_isub, op_aload 0, op_getr SC 4 0, op_iload 1, op_aald SC, op_aast SC, op_aload 0, op_getr SC 4 0, op_iload 1, op_aload 2, op_aast SC, op_iinc 1 (1), op_goto 1],
  [op_aload 0, op_aload 0, op_getr SC 4 0, op_alen SC, op_ci (1), op_isub, op_puti SC 4 1, op_ret]]
def t_Pi_dropOldest : Nat → Nat := fun t => [0, 2, 47].getD t 0
set_option maxRecDepth 100000 in
theorem ok_Pi_dropOldest : MOK SC m_Pi_dropOldest c_Pi_dropOldest t_Pi_dropOldest := fun t => match t with
  | 0 => ⟨_, so_iconst (n := (1)) (by decide +kernel) ⟨by decide, by decide⟩,
    ⟨_, so_istore_n (i := 1) (k := 1) (by decide +kernel) rfl (by decide +kernel),
    ⟨_, so_fall (pc' := 0) (t := 1) rfl,
    trivial⟩⟩⟩
  | 1 => ⟨_, so_iload_n (i := 1) (k := 1) (by decide +kernel) rfl,
    ⟨_, so_aload_n (i := 0) (k := 0) (by decide +kernel) rfl,
    ⟨_, so_getr (ci := 4) (k := 0) (index := 9) rfl CF_4 (by decide +kernel) (fun _ _ _ => rfl) tw_224 rfl (by decide +kernel),
    ⟨_, so_alen rfl (by decide +kernel),
    ⟨_, so_icge (t := 2) (off := 39) (by decide +kernel) rfl,
    ⟨_, so_aload_n (i := 0) (k := 0) (by decide +kernel) rfl,
    ⟨_, so_getr (ci := 4) (k := 0) (index := 9) rfl CF_4 (by decide +kernel) (fun _ _ _ => rfl) tw_224 rfl (by decide +kernel),
    ⟨_, so_iload_n (i := 1) (k := 1) (by decide +kernel) rfl,
    ⟨_, so_iconst (n := (1)) (by decide +kernel) ⟨by decide, by decide⟩,
    ⟨_, so_isub (by decide +kernel),
    ⟨_, so_aald rfl (by decide +kernel),
    ⟨_, so_astore_n (i := 2) (k := 2) (by decide +kernel) rfl (by decide +kernel),
    ⟨_, so_aload_n (i := 0) (k := 0) (by decide +kernel) rfl,
    ⟨_, so_getr (ci := 4) (k := 0) (index := 9) rfl CF_4 (by decide +kernel) (fun _ _ _ => rfl) tw_224 rfl (by decide +kernel),
    ⟨_, so_iload_n (i := 1) (k := 1) (by decide +kernel) rfl,
    ⟨_, so_iconst (n := (1)) (by decide +kernel) ⟨by decide, by decide⟩,
    ⟨_, so_isub (by decide +kernel),
    ⟨_, so_aload_n (i := 0) (k := 0) (by decide +kernel) rfl,
    ⟨_, so_getr (ci := 4) (k := 0) (index := 9) rfl CF_4 (by decide +kernel) (fun _ _ _ => rfl) tw_224 rfl (by decide +kernel),
    ⟨_, so_iload_n (i := 1) (k := 1) (by decide +kernel) rfl,
    ⟨_, so_aald rfl (by decide +kernel),
    ⟨_, so_aast rfl (by decide +kernel),
    ⟨_, so_aload_n (i := 0) (k := 0) (by decide +kernel) rfl,
    ⟨_, so_getr (ci := 4) (k := 0) (index := 9) rfl CF_4 (by decide +kernel) (fun _ _ _ => rfl) tw_224 rfl (by decide +kernel),
    ⟨_, so_iload_n (i := 1) (k := 1) (by decide +kernel) rfl,
    ⟨_, so_aload_n (i := 2) (k := 2) (by decide +kernel) rfl,
    ⟨_, so_aast rfl (by decide +kernel),
    ⟨_, so_iinc (i := 1) (n := 1) (by decide +kernel) (by decide +kernel),
    ⟨_, so_goto (pc' := 0) (t := 1) (off := -42) (by decide +kernel) rfl,
    trivial⟩⟩⟩⟩⟩⟩⟩⟩⟩⟩⟩⟩⟩⟩⟩⟩⟩⟩⟩⟩⟩⟩⟩⟩⟩⟩⟩⟩⟩
  | 2 => ⟨_, so_aload_n (i := 0) (k := 0) (by decide +kernel) rfl,
    ⟨_, so_aload_n (i := 0) (k := 0) (by decide +kernel) rfl,
    ⟨_, so_getr (ci := 4) (k := 0) (index := 9) rfl CF_4 (by decide +kernel) (fun _ _ _ => rfl) tw_224 rfl (by decide +kernel),
    ⟨_, so_alen rfl (by decide +kernel),
    ⟨_, so_iconst (n := (1)) (by decide +kernel) ⟨by decide, by decide⟩,
    ⟨_, so_isub (by decide +kernel),
    ⟨_, so_puti (ci := 4) (k := 1) (index := 16) rfl CF_4 (by decide +kernel) rfl tw_225 rfl rfl (by decide +kernel),
    ⟨_, so_ret (pc' := 0) rfl (by decide +kernel),
    trivial⟩⟩⟩⟩⟩⟩⟩⟩
  | _ + 3 => trivial
def c_Re_init : List (List Op) := [
  [op_aload 0, op_oinit, op_aload 0, op_new SC 1 8, op_dup, op_invI SC m_Co_init 0, op_putr SC 5 0, op_aload 0, op_ci (5), op_newa SC .int, op_putr SC 5 1, op_ret]]
def t_Re_init : Nat → Nat := fun t => [0].getD t 0
set_option maxRecDepth 100000 in
theorem ok_Re_init : MOK SC m_Re_init c_Re_init t_Re_init := fun t => match t with
  | 0 => ⟨_, so_aload_n (i := 0) (k := 0) (by decide +kernel) rfl,
    ⟨_, so_oinit (index := 3) tw_112 tw_91 tw_92 (by decide +kernel) (by decide +kernel),
    ⟨_, so_aload_n (i := 0) (k := 0) (by decide +kernel) rfl,
    ⟨_, so_new (ci := 1) (index := 9) CF_1 (by decide +kernel) tw_113 tw_114 tw_67 (by decide +kernel),
    ⟨_, so_dup (by decide +kernel),
    ⟨_, so_invIN (mi' := m_Co_init) (n := 0) (index := 11) tw_116 rfl rfl ⟨tw_117, tw_67, ⟨by decide +kernel, by decide +kernel, by decide +kernel⟩, by decide +kernel⟩ tw_115 (by decide +kernel),
    ⟨_, so_putrF (ci := 5) (k := 0) (index := 12) rfl CF_5 (by decide +kernel) (Or.inl ⟨_, rfl⟩) tw_199 rfl rfl rfl rfl (by decide +kernel),
    ⟨_, so_aload_n (i := 0) (k := 0) (by decide +kernel) rfl,
    ⟨_, so_iconst (n := (5)) (by decide +kernel) ⟨by decide, by decide⟩,
    ⟨_, so_newa (atype := .int) (ty := .int) rfl (by decide) tw_166 (by decide +kernel),
    ⟨_, so_putrF (ci := 5) (k := 1) (index := 18) rfl CF_5 (by decide +kernel) (Or.inr ⟨_, rfl⟩) tw_201 rfl rfl rfl rfl (by decide +kernel),
    ⟨_, so_ret (pc' := 0) rfl (by decide +kernel),
    trivial⟩⟩⟩⟩⟩⟩⟩⟩⟩⟩⟩⟩
  | _ + 1 => trivial
def c_Re_firstFault : List (List Op) := [
  [op_aload 0, op_getr SC 5 0, op_invV SC m_Co_clear 1 0, op_aload 0, op_ci (1), op_putz SC 5 3, op_aload 0, op_ci (0), op_puti SC 5 2, op_ci (0), op_istore 2, op_goto 1],
  [op_iload 2, op_ci (200), op_icge 3, op_aload 0, op_geti SC 5 2, op_aload 1, op_invV SC m_Le_length 3 0, op_icge 3, op_aload 0, op_geti SC 5 2, op_istore 3, op_aload 0, op_aload 1, op_invV SC m_Re_readItem 5 1, op_ifne 2, op_iload 3, op_iret],
  [op_iinc 2 (1), op_goto 1],
  [op_ci (-4), op_iret]]
def t_Re_firstFault : Nat → Nat := fun t => [0, 19, 52, 58].getD t 0
set_option maxRecDepth 100000 in
theorem ok_Re_firstFault : MOK SC m_Re_firstFault c_Re_firstFault t_Re_firstFault := fun t => match t with
  | 0 => ⟨_, so_aload_n (i := 0) (k := 0) (by decide +kernel) rfl,
    ⟨_, so_getr (ci := 5) (k := 0) (index := 12) rfl CF_5 (by decide +kernel) (fun _ _ _ => rfl) tw_199 rfl (by decide +kernel),
    ⟨_, so_invV (mi' := m_Co_clear) (ci := 1) (n := 0) (index := 22) rfl rfl tw_485 tw_486 ⟨tw_487, tw_67, ⟨by decide +kernel, by decide +kernel, by decide +kernel⟩, by decide +kernel⟩ tw_484 (by decide +kernel),
    ⟨_, so_aload_n (i := 0) (k := 0) (by decide +kernel) rfl,
    ⟨_, so_iconst (n := (1)) (by decide +kernel) ⟨by decide, by decide⟩,
    ⟨_, so_putz (ci := 5) (k := 3) (index := 25) rfl CF_5 (by decide +kernel) rfl tw_203 rfl rfl (by decide +kernel),
    ⟨_, so_aload_n (i := 0) (k := 0) (by decide +kernel) rfl,
    ⟨_, so_iconst (n := (0)) (by decide +kernel) ⟨by decide, by decide⟩,
    ⟨_, so_puti (ci := 5) (k := 2) (index := 29) rfl CF_5 (by decide +kernel) rfl tw_202 rfl rfl (by decide +kernel),
    ⟨_, so_iconst (n := (0)) (by decide +kernel) ⟨by decide, by decide⟩,
    ⟨_, so_istore_n (i := 2) (k := 2) (by decide +kernel) rfl (by decide +kernel),
    ⟨_, so_fall (pc' := 0) (t := 1) rfl,
    trivial⟩⟩⟩⟩⟩⟩⟩⟩⟩⟩⟩⟩
  | 1 => ⟨_, so_iload_n (i := 2) (k := 2) (by decide +kernel) rfl,
    ⟨_, so_sipush (n := (200)) (by decide +kernel) (by decide +kernel) ⟨by decide, by decide⟩,
    ⟨_, so_icge (t := 3) (off := 35) (by decide +kernel) rfl,
    ⟨_, so_aload_n (i := 0) (k := 0) (by decide +kernel) rfl,
    ⟨_, so_geti (ci := 5) (k := 2) (index := 29) rfl CF_5 (by decide +kernel) (fun _ _ _ => rfl) tw_202 rfl (by decide +kernel),
    ⟨_, so_aload_n (i := 1) (k := 1) (by decide +kernel) rfl,
    ⟨_, so_invV (mi' := m_Le_length) (ci := 3) (n := 0) (index := 33) rfl rfl tw_477 tw_478 ⟨tw_479, tw_65, ⟨by decide +kernel, by decide +kernel, by decide +kernel⟩, by decide +kernel⟩ tw_488 (by decide +kernel),
    ⟨_, so_icge (t := 3) (off := 24) (by decide +kernel) rfl,
    ⟨_, so_aload_n (i := 0) (k := 0) (by decide +kernel) rfl,
    ⟨_, so_geti (ci := 5) (k := 2) (index := 29) rfl CF_5 (by decide +kernel) (fun _ _ _ => rfl) tw_202 rfl (by decide +kernel),
    ⟨_, so_istore_n (i := 3) (k := 3) (by decide +kernel) rfl (by decide +kernel),
    ⟨_, so_aload_n (i := 0) (k := 0) (by decide +kernel) rfl,
    ⟨_, so_aload_n (i := 1) (k := 1) (by decide +kernel) rfl,
    ⟨_, so_invV (mi' := m_Re_readItem) (ci := 5) (n := 1) (index := 39) rfl rfl tw_491 tw_1 ⟨tw_492, tw_66, ⟨by decide +kernel, by decide +kernel, by decide +kernel⟩, by decide +kernel⟩ tw_489 (by decide +kernel),
    ⟨_, so_ifne (t := 2) (off := 5) (by decide +kernel) rfl,
    ⟨_, so_iload_n (i := 3) (k := 3) (by decide +kernel) rfl,
    ⟨_, so_iret (pc' := 0) rfl (by decide +kernel),
    trivial⟩⟩⟩⟩⟩⟩⟩⟩⟩⟩⟩⟩⟩⟩⟩⟩⟩
  | 2 => ⟨_, so_iinc (i := 2) (n := 1) (by decide +kernel) (by decide +kernel),
    ⟨_, so_goto (pc' := 0) (t := 1) (off := -36) (by decide +kernel) rfl,
    trivial⟩⟩
  | 3 => ⟨_, so_bipush (n := (-4)) (by decide +kernel) (by decide +kernel) ⟨by decide, by decide⟩,
    ⟨_, so_iret (pc' := 0) rfl (by decide +kernel),
    trivial⟩⟩
  | _ + 4 => trivial
def c_Re_readItem : List (List Op) := [
  [op_aload 0, op_geti SC 5 2, op_istore 2, op_aload 0, op_dup, op_geti SC 5 2, op_ci (1), op_iadd, op_puti SC 5 2, op_aload 1, op_iload 2, op_ci (110), op_invV SC m_Le_has 3 2, op_ifeq 3, op_aload 0, op_aload 1, op_ci (1), op_invV SC m_Re_readNumbers 5 2, op_ifeq 1, op_aload 0, op_aload 0, op_getr SC 5 1, op_ci (0), op_iald SC, op_invV SC m_Re_tellPlaces 5 1, op_ifeq 1, op_ci (1), op_goto 2],
  [op_ci (0), op_goto 2],
  [op_zret],
  [op_aload 0, op_ci (0), op_putz SC 5 3, op_aload 1, op_iload 2, op_ci (114), op_invV SC m_Le_has 3 2, op_ifeq 6, op_aload 0, op_aload 1, op_ci (5), op_invV SC m_Re_readNumbers 5 2, op_ifeq 4, op_aload 0, op_invV SC m_Re_tellRoad 5 0, op_ifeq 4, op_ci (1), op_goto 5],
  [op_ci (0), op_goto 5],
  [op_zret],
  [op_aload 1, op_iload 2, op_ci (115), op_invV SC m_Le_has 3 2, op_ifeq 9, op_aload 0, op_aload 1, op_ci (2), op_invV SC m_Re_readNumbers 5 2, op_ifeq 7, op_aload 0, op_aload 0, op_getr SC 5 1, op_ci (0), op_iald SC, op_aload 0, op_getr SC 5 1, op_ci (1), op_iald SC, op_invV SC m_Re_tellStart 5 2, op_ifeq 7, op_ci (1), op_goto 8],
  [op_ci (0), op_goto 8],
  [op_zret],
  [op_aload 1, op_iload 2, op_ci (106), op_invV SC m_Le_has 3 2, op_ifeq 10, op_aload 0, op_aload 1, op_ci (1), op_invV SC m_Re_readNumbers 5 2, op_ifeq 10, op_aload 0, op_getr SC 5 0, op_aload 0, op_getr SC 5 1, op_ci (0), op_iald SC, op_invV SC m_Co_addStep 1 1, op_ifeq 10, op_ci (1), op_goto 11],
  [op_ci (0), op_goto 11],
  [op_zret]]
def t_Re_readItem : Nat → Nat := fun t => [0, 51, 52, 53, 88, 89, 90, 132, 133, 134, 173, 174].getD t 0
set_option maxRecDepth 100000 in
theorem ok_Re_readItem : MOK SC m_Re_readItem c_Re_readItem t_Re_readItem := fun t => match t with
  | 0 => ⟨_, so_aload_n (i := 0) (k := 0) (by decide +kernel) rfl,
    ⟨_, so_geti (ci := 5) (k := 2) (index := 29) rfl CF_5 (by decide +kernel) (fun _ _ _ => rfl) tw_202 rfl (by decide +kernel),
    ⟨_, so_istore_n (i := 2) (k := 2) (by decide +kernel) rfl (by decide +kernel),
    ⟨_, so_aload_n (i := 0) (k := 0) (by decide +kernel) rfl,
    ⟨_, so_dup (by decide +kernel),
    ⟨_, so_geti (ci := 5) (k := 2) (index := 29) rfl CF_5 (by decide +kernel) (fun _ _ _ => rfl) tw_202 rfl (by decide +kernel),
    ⟨_, so_iconst (n := (1)) (by decide +kernel) ⟨by decide, by decide⟩,
    ⟨_, so_iadd (by decide +kernel),
    ⟨_, so_puti (ci := 5) (k := 2) (index := 29) rfl CF_5 (by decide +kernel) rfl tw_202 rfl rfl (by decide +kernel),
    ⟨_, so_aload_n (i := 1) (k := 1) (by decide +kernel) rfl,
    ⟨_, so_iload_n (i := 2) (k := 2) (by decide +kernel) rfl,
    ⟨_, so_bipush (n := (110)) (by decide +kernel) (by decide +kernel) ⟨by decide, by decide⟩,
    ⟨_, so_invV (mi' := m_Le_has) (ci := 3) (n := 2) (index := 43) rfl rfl tw_494 tw_495 ⟨tw_496, tw_65, ⟨by decide +kernel, by decide +kernel, by decide +kernel⟩, by decide +kernel⟩ tw_493 (by decide +kernel),
    ⟨_, so_ifeq (t := 3) (off := 31) (by decide +kernel) rfl,
    ⟨_, so_aload_n (i := 0) (k := 0) (by decide +kernel) rfl,
    ⟨_, so_aload_n (i := 1) (k := 1) (by decide +kernel) rfl,
    ⟨_, so_iconst (n := (1)) (by decide +kernel) ⟨by decide, by decide⟩,
    ⟨_, so_invV (mi' := m_Re_readNumbers) (ci := 5) (n := 2) (index := 47) rfl rfl tw_499 tw_2 ⟨tw_500, tw_66, ⟨by decide +kernel, by decide +kernel, by decide +kernel⟩, by decide +kernel⟩ tw_497 (by decide +kernel),
    ⟨_, so_ifeq (t := 1) (off := 20) (by decide +kernel) rfl,
    ⟨_, so_aload_n (i := 0) (k := 0) (by decide +kernel) rfl,
    ⟨_, so_aload_n (i := 0) (k := 0) (by decide +kernel) rfl,
    ⟨_, so_getr (ci := 5) (k := 1) (index := 18) rfl CF_5 (by decide +kernel) (fun _ _ _ => rfl) tw_201 rfl (by decide +kernel),
    ⟨_, so_iconst (n := (0)) (by decide +kernel) ⟨by decide, by decide⟩,
    ⟨_, so_iald rfl (by decide +kernel),
    ⟨_, so_invV (mi' := m_Re_tellPlaces) (ci := 5) (n := 1) (index := 51) rfl rfl tw_511 tw_4 ⟨tw_512, tw_66, ⟨by decide +kernel, by decide +kernel, by decide +kernel⟩, by decide +kernel⟩ tw_509 (by decide +kernel),
    ⟨_, so_ifeq (t := 1) (off := 7) (by decide +kernel) rfl,
    ⟨_, so_iconst (n := (1)) (by decide +kernel) ⟨by decide, by decide⟩,
    ⟨_, so_goto (pc' := 0) (t := 2) (off := 4) (by decide +kernel) rfl,
    trivial⟩⟩⟩⟩⟩⟩⟩⟩⟩⟩⟩⟩⟩⟩⟩⟩⟩⟩⟩⟩⟩⟩⟩⟩⟩⟩⟩⟩
  | 1 => ⟨_, so_iconst (n := (0)) (by decide +kernel) ⟨by decide, by decide⟩,
    ⟨_, so_fall (pc' := 0) (t := 2) rfl,
    trivial⟩⟩
  | 2 => ⟨_, so_zret (pc' := 0) rfl (by decide +kernel),
    trivial⟩
  | 3 => ⟨_, so_aload_n (i := 0) (k := 0) (by decide +kernel) rfl,
    ⟨_, so_iconst (n := (0)) (by decide +kernel) ⟨by decide, by decide⟩,
    ⟨_, so_putz (ci := 5) (k := 3) (index := 25) rfl CF_5 (by decide +kernel) rfl tw_203 rfl rfl (by decide +kernel),
    ⟨_, so_aload_n (i := 1) (k := 1) (by decide +kernel) rfl,
    ⟨_, so_iload_n (i := 2) (k := 2) (by decide +kernel) rfl,
    ⟨_, so_bipush (n := (114)) (by decide +kernel) (by decide +kernel) ⟨by decide, by decide⟩,
    ⟨_, so_invV (mi' := m_Le_has) (ci := 3) (n := 2) (index := 43) rfl rfl tw_494 tw_495 ⟨tw_496, tw_65, ⟨by decide +kernel, by decide +kernel, by decide +kernel⟩, by decide +kernel⟩ tw_493 (by decide +kernel),
    ⟨_, so_ifeq (t := 6) (off := 25) (by decide +kernel) rfl,
    ⟨_, so_aload_n (i := 0) (k := 0) (by decide +kernel) rfl,
    ⟨_, so_aload_n (i := 1) (k := 1) (by decide +kernel) rfl,
    ⟨_, so_iconst (n := (5)) (by decide +kernel) ⟨by decide, by decide⟩,
    ⟨_, so_invV (mi' := m_Re_readNumbers) (ci := 5) (n := 2) (index := 47) rfl rfl tw_499 tw_2 ⟨tw_500, tw_66, ⟨by decide +kernel, by decide +kernel, by decide +kernel⟩, by decide +kernel⟩ tw_497 (by decide +kernel),
    ⟨_, so_ifeq (t := 4) (off := 14) (by decide +kernel) rfl,
    ⟨_, so_aload_n (i := 0) (k := 0) (by decide +kernel) rfl,
    ⟨_, so_invV (mi' := m_Re_tellRoad) (ci := 5) (n := 0) (index := 55) rfl rfl tw_519 tw_5 ⟨tw_520, tw_66, ⟨by decide +kernel, by decide +kernel, by decide +kernel⟩, by decide +kernel⟩ tw_517 (by decide +kernel),
    ⟨_, so_ifeq (t := 4) (off := 7) (by decide +kernel) rfl,
    ⟨_, so_iconst (n := (1)) (by decide +kernel) ⟨by decide, by decide⟩,
    ⟨_, so_goto (pc' := 0) (t := 5) (off := 4) (by decide +kernel) rfl,
    trivial⟩⟩⟩⟩⟩⟩⟩⟩⟩⟩⟩⟩⟩⟩⟩⟩⟩⟩
  | 4 => ⟨_, so_iconst (n := (0)) (by decide +kernel) ⟨by decide, by decide⟩,
    ⟨_, so_fall (pc' := 0) (t := 5) rfl,
    trivial⟩⟩
  | 5 => ⟨_, so_zret (pc' := 0) rfl (by decide +kernel),
    trivial⟩
  | 6 => ⟨_, so_aload_n (i := 1) (k := 1) (by decide +kernel) rfl,
    ⟨_, so_iload_n (i := 2) (k := 2) (by decide +kernel) rfl,
    ⟨_, so_bipush (n := (115)) (by decide +kernel) (by decide +kernel) ⟨by decide, by decide⟩,
    ⟨_, so_invV (mi' := m_Le_has) (ci := 3) (n := 2) (index := 43) rfl rfl tw_494 tw_495 ⟨tw_496, tw_65, ⟨by decide +kernel, by decide +kernel, by decide +kernel⟩, by decide +kernel⟩ tw_493 (by decide +kernel),
    ⟨_, so_ifeq (t := 9) (off := 37) (by decide +kernel) rfl,
    ⟨_, so_aload_n (i := 0) (k := 0) (by decide +kernel) rfl,
    ⟨_, so_aload_n (i := 1) (k := 1) (by decide +kernel) rfl,
    ⟨_, so_iconst (n := (2)) (by decide +kernel) ⟨by decide, by decide⟩,
    ⟨_, so_invV (mi' := m_Re_readNumbers) (ci := 5) (n := 2) (index := 47) rfl rfl tw_499 tw_2 ⟨tw_500, tw_66, ⟨by decide +kernel, by decide +kernel, by decide +kernel⟩, by decide +kernel⟩ tw_497 (by decide +kernel),
    ⟨_, so_ifeq (t := 7) (off := 26) (by decide +kernel) rfl,
    ⟨_, so_aload_n (i := 0) (k := 0) (by decide +kernel) rfl,
    ⟨_, so_aload_n (i := 0) (k := 0) (by decide +kernel) rfl,
    ⟨_, so_getr (ci := 5) (k := 1) (index := 18) rfl CF_5 (by decide +kernel) (fun _ _ _ => rfl) tw_201 rfl (by decide +kernel),
    ⟨_, so_iconst (n := (0)) (by decide +kernel) ⟨by decide, by decide⟩,
    ⟨_, so_iald rfl (by decide +kernel),
    ⟨_, so_aload_n (i := 0) (k := 0) (by decide +kernel) rfl,
    ⟨_, so_getr (ci := 5) (k := 1) (index := 18) rfl CF_5 (by decide +kernel) (fun _ _ _ => rfl) tw_201 rfl (by decide +kernel),
    ⟨_, so_iconst (n := (1)) (by decide +kernel) ⟨by decide, by decide⟩,
    ⟨_, so_iald rfl (by decide +kernel),
    ⟨_, so_invV (mi' := m_Re_tellStart) (ci := 5) (n := 2) (index := 59) rfl rfl tw_531 tw_6 ⟨tw_532, tw_66, ⟨by decide +kernel, by decide +kernel, by decide +kernel⟩, by decide +kernel⟩ tw_529 (by decide +kernel),
    ⟨_, so_ifeq (t := 7) (off := 7) (by decide +kernel) rfl,
    ⟨_, so_iconst (n := (1)) (by decide +kernel) ⟨by decide, by decide⟩,
    ⟨_, so_goto (pc' := 0) (t := 8) (off := 4) (by decide +kernel) rfl,
    trivial⟩⟩⟩⟩⟩⟩⟩⟩⟩⟩⟩⟩⟩⟩⟩⟩⟩⟩⟩⟩⟩⟩⟩
  | 7 => ⟨_, so_iconst (n := (0)) (by decide +kernel) ⟨by decide, by decide⟩,
    ⟨_, so_fall (pc' := 0) (t := 8) rfl,
    trivial⟩⟩
  | 8 => ⟨_, so_zret (pc' := 0) rfl (by decide +kernel),
    trivial⟩
  | 9 => ⟨_, so_aload_n (i := 1) (k := 1) (by decide +kernel) rfl,
    ⟨_, so_iload_n (i := 2) (k := 2) (by decide +kernel) rfl,
    ⟨_, so_bipush (n := (106)) (by decide +kernel) (by decide +kernel) ⟨by decide, by decide⟩,
    ⟨_, so_invV (mi' := m_Le_has) (ci := 3) (n := 2) (index := 43) rfl rfl tw_494 tw_495 ⟨tw_496, tw_65, ⟨by decide +kernel, by decide +kernel, by decide +kernel⟩, by decide +kernel⟩ tw_493 (by decide +kernel),
    ⟨_, so_ifeq (t := 10) (off := 32) (by decide +kernel) rfl,
    ⟨_, so_aload_n (i := 0) (k := 0) (by decide +kernel) rfl,
    ⟨_, so_aload_n (i := 1) (k := 1) (by decide +kernel) rfl,
    ⟨_, so_iconst (n := (1)) (by decide +kernel) ⟨by decide, by decide⟩,
    ⟨_, so_invV (mi' := m_Re_readNumbers) (ci := 5) (n := 2) (index := 47) rfl rfl tw_499 tw_2 ⟨tw_500, tw_66, ⟨by decide +kernel, by decide +kernel, by decide +kernel⟩, by decide +kernel⟩ tw_497 (by decide +kernel),
    ⟨_, so_ifeq (t := 10) (off := 23) (by decide +kernel) rfl,
    ⟨_, so_aload_n (i := 0) (k := 0) (by decide +kernel) rfl,
    ⟨_, so_getr (ci := 5) (k := 0) (index := 12) rfl CF_5 (by decide +kernel) (fun _ _ _ => rfl) tw_199 rfl (by decide +kernel),
    ⟨_, so_aload_n (i := 0) (k := 0) (by decide +kernel) rfl,
    ⟨_, so_getr (ci := 5) (k := 1) (index := 18) rfl CF_5 (by decide +kernel) (fun _ _ _ => rfl) tw_201 rfl (by decide +kernel),
    ⟨_, so_iconst (n := (0)) (by decide +kernel) ⟨by decide, by decide⟩,
    ⟨_, so_iald rfl (by decide +kernel),
    ⟨_, so_invV (mi' := m_Co_addStep) (ci := 1) (n := 1) (index := 63) rfl rfl tw_534 tw_535 ⟨tw_536, tw_67, ⟨by decide +kernel, by decide +kernel, by decide +kernel⟩, by decide +kernel⟩ tw_533 (by decide +kernel),
    ⟨_, so_ifeq (t := 10) (off := 7) (by decide +kernel) rfl,
    ⟨_, so_iconst (n := (1)) (by decide +kernel) ⟨by decide, by decide⟩,
    ⟨_, so_goto (pc' := 0) (t := 11) (off := 4) (by decide +kernel) rfl,
    trivial⟩⟩⟩⟩⟩⟩⟩⟩⟩⟩⟩⟩⟩⟩⟩⟩⟩⟩⟩⟩
  | 10 => ⟨_, so_iconst (n := (0)) (by decide +kernel) ⟨by decide, by decide⟩,
    ⟨_, so_fall (pc' := 0) (t := 11) rfl,
    trivial⟩⟩
  | 11 => ⟨_, so_zret (pc' := 0) rfl (by decide +kernel),
    trivial⟩
  | _ + 12 => trivial
def c_Re_readNumbers : List (List Op) := [
  [op_ci (0), op_istore 3, op_goto 1],
  [op_iload 3, op_iload 2, op_icge 6, op_iload 3, op_aload 0, op_getr SC 5 1, op_alen SC, op_icge 6, op_aload 0, op_aload 1, op_invV SC m_Re_readNumber 5 1, op_istore 4, op_iload 4, op_iflt 4, op_aload 1, op_aload 0, op_geti SC 5 2, op_iload 3, op_iload 2, op_ci (1), op_isub, op_icne 2, op_ci (59), op_goto 3],
  [op_ci (44), op_goto 3],
  [op_invV SC m_Le_has 3 2, op_ifne 5, op_goto 4],
  [op_ci (0), op_zret],
  [op_aload 0, op_getr SC 5 1, op_iload 3, op_iload 4, op_iast SC, op_aload 0, op_dup, op_geti SC 5 2, op_ci (1), op_iadd, op_puti SC 5 2, op_iinc 3 (1), op_goto 1],
  [op_ci (1), op_zret]]
def t_Re_readNumbers : Nat → Nat := fun t => [0, 2, 45, 47, 53, 55, 79].getD t 0
set_option maxRecDepth 100000 in
theorem ok_Re_readNumbers : MOK SC m_Re_readNumbers c_Re_readNumbers t_Re_readNumbers := fun t => match t with
  | 0 => ⟨_, so_iconst (n := (0)) (by decide +kernel) ⟨by decide, by decide⟩,
    ⟨_, so_istore_n (i := 3) (k := 3) (by decide +kernel) rfl (by decide +kernel),
    ⟨_, so_fall (pc' := 0) (t := 1) rfl,
    trivial⟩⟩⟩
  | 1 => ⟨_, so_iload_n (i := 3) (k := 3) (by decide +kernel) rfl,
    ⟨_, so_iload_n (i := 2) (k := 2) (by decide +kernel) rfl,
    ⟨_, so_icge (t := 6) (off := 75) (by decide +kernel) rfl,
    ⟨_, so_iload_n (i := 3) (k := 3) (by decide +kernel) rfl,
    ⟨_, so_aload_n (i := 0) (k := 0) (by decide +kernel) rfl,
    ⟨_, so_getr (ci := 5) (k := 1) (index := 18) rfl CF_5 (by decide +kernel) (fun _ _ _ => rfl) tw_201 rfl (by decide +kernel),
    ⟨_, so_alen rfl (by decide +kernel),
    ⟨_, so_icge (t := 6) (off := 66) (by decide +kernel) rfl,
    ⟨_, so_aload_n (i := 0) (k := 0) (by decide +kernel) rfl,
    ⟨_, so_aload_n (i := 1) (k := 1) (by decide +kernel) rfl,
    ⟨_, so_invV (mi' := m_Re_readNumber) (ci := 5) (n := 1) (index := 66) rfl rfl tw_503 tw_3 ⟨tw_504, tw_66, ⟨by decide +kernel, by decide +kernel, by decide +kernel⟩, by decide +kernel⟩ tw_501 (by decide +kernel),
    ⟨_, so_istore (i := 4) (by decide +kernel) (by decide +kernel),
    ⟨_, so_iload (i := 4) (by decide +kernel),
    ⟨_, so_iflt (t := 4) (off := 28) (by decide +kernel) rfl,
    ⟨_, so_aload_n (i := 1) (k := 1) (by decide +kernel) rfl,
    ⟨_, so_aload_n (i := 0) (k := 0) (by decide +kernel) rfl,
    ⟨_, so_geti (ci := 5) (k := 2) (index := 29) rfl CF_5 (by decide +kernel) (fun _ _ _ => rfl) tw_202 rfl (by decide +kernel),
    ⟨_, so_iload_n (i := 3) (k := 3) (by decide +kernel) rfl,
    ⟨_, so_iload_n (i := 2) (k := 2) (by decide +kernel) rfl,
    ⟨_, so_iconst (n := (1)) (by decide +kernel) ⟨by decide, by decide⟩,
    ⟨_, so_isub (by decide +kernel),
    ⟨_, so_icne (t := 2) (off := 8) (by decide +kernel) rfl,
    ⟨_, so_bipush (n := (59)) (by decide +kernel) (by decide +kernel) ⟨by decide, by decide⟩,
    ⟨_, so_goto (pc' := 0) (t := 3) (off := 5) (by decide +kernel) rfl,
    trivial⟩⟩⟩⟩⟩⟩⟩⟩⟩⟩⟩⟩⟩⟩⟩⟩⟩⟩⟩⟩⟩⟩⟩⟩
  | 2 => ⟨_, so_bipush (n := (44)) (by decide +kernel) (by decide +kernel) ⟨by decide, by decide⟩,
    ⟨_, so_fall (pc' := 0) (t := 3) rfl,
    trivial⟩⟩
  | 3 => ⟨_, so_invV (mi' := m_Le_has) (ci := 3) (n := 2) (index := 43) rfl rfl tw_494 tw_495 ⟨tw_496, tw_65, ⟨by decide +kernel, by decide +kernel, by decide +kernel⟩, by decide +kernel⟩ tw_493 (by decide +kernel),
    ⟨_, so_ifne (t := 5) (off := 5) (by decide +kernel) rfl,
    ⟨_, so_fall (pc' := 0) (t := 4) rfl,
    trivial⟩⟩⟩
  | 4 => ⟨_, so_iconst (n := (0)) (by decide +kernel) ⟨by decide, by decide⟩,
    ⟨_, so_zret (pc' := 0) rfl (by decide +kernel),
    trivial⟩⟩
  | 5 => ⟨_, so_aload_n (i := 0) (k := 0) (by decide +kernel) rfl,
    ⟨_, so_getr (ci := 5) (k := 1) (index := 18) rfl CF_5 (by decide +kernel) (fun _ _ _ => rfl) tw_201 rfl (by decide +kernel),
    ⟨_, so_iload_n (i := 3) (k := 3) (by decide +kernel) rfl,
    ⟨_, so_iload (i := 4) (by decide +kernel),
    ⟨_, so_iast rfl (by decide +kernel),
    ⟨_, so_aload_n (i := 0) (k := 0) (by decide +kernel) rfl,
    ⟨_, so_dup (by decide +kernel),
    ⟨_, so_geti (ci := 5) (k := 2) (index := 29) rfl CF_5 (by decide +kernel) (fun _ _ _ => rfl) tw_202 rfl (by decide +kernel),
    ⟨_, so_iconst (n := (1)) (by decide +kernel) ⟨by decide, by decide⟩,
    ⟨_, so_iadd (by decide +kernel),
    ⟨_, so_puti (ci := 5) (k := 2) (index := 29) rfl CF_5 (by decide +kernel) rfl tw_202 rfl rfl (by decide +kernel),
    ⟨_, so_iinc (i := 3) (n := 1) (by decide +kernel) (by decide +kernel),
    ⟨_, so_goto (pc' := 0) (t := 1) (off := -74) (by decide +kernel) rfl,
    trivial⟩⟩⟩⟩⟩⟩⟩⟩⟩⟩⟩⟩⟩
  | 6 => ⟨_, so_iconst (n := (1)) (by decide +kernel) ⟨by decide, by decide⟩,
    ⟨_, so_zret (pc' := 0) rfl (by decide +kernel),
    trivial⟩⟩
  | _ + 7 => trivial
def c_Re_readNumber : List (List Op) := [
  [op_aload 1, op_aload 0, op_geti SC 5 2, op_invV SC m_Le_figureAt 3 1, op_istore 2, op_iload 2, op_ifge 1, op_ci (-1), op_iret],
  [op_aload 0, op_dup, op_geti SC 5 2, op_ci (1), op_iadd, op_puti SC 5 2, op_aload 1, op_aload 0, op_geti SC 5 2, op_invV SC m_Le_figureAt 3 1, op_istore 3, op_iload 3, op_ifge 2, op_iload 2, op_iret],
  [op_aload 0, op_dup, op_geti SC 5 2, op_ci (1), op_iadd, op_puti SC 5 2, op_iload 2, op_ci (10), op_imul, op_iload 3, op_iadd, op_iret]]
def t_Re_readNumber : Nat → Nat := fun t => [0, 15, 40].getD t 0
set_option maxRecDepth 100000 in
theorem ok_Re_readNumber : MOK SC m_Re_readNumber c_Re_readNumber t_Re_readNumber := fun t => match t with
  | 0 => ⟨_, so_aload_n (i := 1) (k := 1) (by decide +kernel) rfl,
    ⟨_, so_aload_n (i := 0) (k := 0) (by decide +kernel) rfl,
    ⟨_, so_geti (ci := 5) (k := 2) (index := 29) rfl CF_5 (by decide +kernel) (fun _ _ _ => rfl) tw_202 rfl (by decide +kernel),
    ⟨_, so_invV (mi' := m_Le_figureAt) (ci := 3) (n := 1) (index := 70) rfl rfl tw_506 tw_507 ⟨tw_508, tw_65, ⟨by decide +kernel, by decide +kernel, by decide +kernel⟩, by decide +kernel⟩ tw_505 (by decide +kernel),
    ⟨_, so_istore_n (i := 2) (k := 2) (by decide +kernel) rfl (by decide +kernel),
    ⟨_, so_iload_n (i := 2) (k := 2) (by decide +kernel) rfl,
    ⟨_, so_ifge (t := 1) (off := 5) (by decide +kernel) rfl,
    ⟨_, so_iconst (n := (-1)) (by decide +kernel) ⟨by decide, by decide⟩,
    ⟨_, so_iret (pc' := 0) rfl (by decide +kernel),
    trivial⟩⟩⟩⟩⟩⟩⟩⟩⟩
  | 1 => ⟨_, so_aload_n (i := 0) (k := 0) (by decide +kernel) rfl,
    ⟨_, so_dup (by decide +kernel),
    ⟨_, so_geti (ci := 5) (k := 2) (index := 29) rfl CF_5 (by decide +kernel) (fun _ _ _ => rfl) tw_202 rfl (by decide +kernel),
    ⟨_, so_iconst (n := (1)) (by decide +kernel) ⟨by decide, by decide⟩,
    ⟨_, so_iadd (by decide +kernel),
    ⟨_, so_puti (ci := 5) (k := 2) (index := 29) rfl CF_5 (by decide +kernel) rfl tw_202 rfl rfl (by decide +kernel),
    ⟨_, so_aload_n (i := 1) (k := 1) (by decide +kernel) rfl,
    ⟨_, so_aload_n (i := 0) (k := 0) (by decide +kernel) rfl,
    ⟨_, so_geti (ci := 5) (k := 2) (index := 29) rfl CF_5 (by decide +kernel) (fun _ _ _ => rfl) tw_202 rfl (by decide +kernel),
    ⟨_, so_invV (mi' := m_Le_figureAt) (ci := 3) (n := 1) (index := 70) rfl rfl tw_506 tw_507 ⟨tw_508, tw_65, ⟨by decide +kernel, by decide +kernel, by decide +kernel⟩, by decide +kernel⟩ tw_505 (by decide +kernel),
    ⟨_, so_istore_n (i := 3) (k := 3) (by decide +kernel) rfl (by decide +kernel),
    ⟨_, so_iload_n (i := 3) (k := 3) (by decide +kernel) rfl,
    ⟨_, so_ifge (t := 2) (off := 5) (by decide +kernel) rfl,
    ⟨_, so_iload_n (i := 2) (k := 2) (by decide +kernel) rfl,
    ⟨_, so_iret (pc' := 0) rfl (by decide +kernel),
    trivial⟩⟩⟩⟩⟩⟩⟩⟩⟩⟩⟩⟩⟩⟩⟩
  | 2 => ⟨_, so_aload_n (i := 0) (k := 0) (by decide +kernel) rfl,
    ⟨_, so_dup (by decide +kernel),
    ⟨_, so_geti (ci := 5) (k := 2) (index := 29) rfl CF_5 (by decide +kernel) (fun _ _ _ => rfl) tw_202 rfl (by decide +kernel),
    ⟨_, so_iconst (n := (1)) (by decide +kernel) ⟨by decide, by decide⟩,
    ⟨_, so_iadd (by decide +kernel),
    ⟨_, so_puti (ci := 5) (k := 2) (index := 29) rfl CF_5 (by decide +kernel) rfl tw_202 rfl rfl (by decide +kernel),
    ⟨_, so_iload_n (i := 2) (k := 2) (by decide +kernel) rfl,
    ⟨_, so_bipush (n := (10)) (by decide +kernel) (by decide +kernel) ⟨by decide, by decide⟩,
    ⟨_, so_imul (by decide +kernel),
    ⟨_, so_iload_n (i := 3) (k := 3) (by decide +kernel) rfl,
    ⟨_, so_iadd (by decide +kernel),
    ⟨_, so_iret (pc' := 0) rfl (by decide +kernel),
    trivial⟩⟩⟩⟩⟩⟩⟩⟩⟩⟩⟩⟩
  | _ + 3 => trivial
def c_Re_tellPlaces : List (List Op) := [
  [op_aload 0, op_geti SC 5 3, op_ifeq 1, op_aload 0, op_getr SC 5 0, op_iload 1, op_invV SC m_Co_setPlaces 1 1, op_ifeq 1, op_ci (1), op_goto 2],
  [op_ci (0), op_goto 2],
  [op_zret]]
def t_Re_tellPlaces : Nat → Nat := fun t => [0, 22, 23].getD t 0
set_option maxRecDepth 100000 in
theorem ok_Re_tellPlaces : MOK SC m_Re_tellPlaces c_Re_tellPlaces t_Re_tellPlaces := fun t => match t with
  | 0 => ⟨_, so_aload_n (i := 0) (k := 0) (by decide +kernel) rfl,
    ⟨_, so_geti (ci := 5) (k := 3) (index := 25) rfl CF_5 (by decide +kernel) (fun _ _ _ => rfl) tw_203 rfl (by decide +kernel),
    ⟨_, so_ifeq (t := 1) (off := 18) (by decide +kernel) rfl,
    ⟨_, so_aload_n (i := 0) (k := 0) (by decide +kernel) rfl,
    ⟨_, so_getr (ci := 5) (k := 0) (index := 12) rfl CF_5 (by decide +kernel) (fun _ _ _ => rfl) tw_199 rfl (by decide +kernel),
    ⟨_, so_iload_n (i := 1) (k := 1) (by decide +kernel) rfl,
    ⟨_, so_invV (mi' := m_Co_setPlaces) (ci := 1) (n := 1) (index := 74) rfl rfl tw_514 tw_515 ⟨tw_516, tw_67, ⟨by decide +kernel, by decide +kernel, by decide +kernel⟩, by decide +kernel⟩ tw_513 (by decide +kernel),
    ⟨_, so_ifeq (t := 1) (off := 7) (by decide +kernel) rfl,
    ⟨_, so_iconst (n := (1)) (by decide +kernel) ⟨by decide, by decide⟩,
    ⟨_, so_goto (pc' := 0) (t := 2) (off := 4) (by decide +kernel) rfl,
    trivial⟩⟩⟩⟩⟩⟩⟩⟩⟩⟩
  | 1 => ⟨_, so_iconst (n := (0)) (by decide +kernel) ⟨by decide, by decide⟩,
    ⟨_, so_fall (pc' := 0) (t := 2) rfl,
    trivial⟩⟩
  | 2 => ⟨_, so_zret (pc' := 0) rfl (by decide +kernel),
    trivial⟩
  | _ + 3 => trivial
def c_Re_tellRoad : List (List Op) := [
  [op_aload 0, op_getr SC 5 0, op_aload 0, op_getr SC 5 1, op_ci (1), op_iald SC, op_invV SC m_Co_hasPlace 1 1, op_ifeq 1, op_aload 0, op_getr SC 5 0, op_aload 0, op_getr SC 5 1, op_ci (2), op_iald SC, op_invV SC m_Co_hasPlace 1 1, op_ifeq 1, op_aload 0, op_getr SC 5 1, op_ci (1), op_iald SC, op_aload 0, op_getr SC 5 1, op_ci (2), op_iald SC, op_icne 2, op_goto 1],
  [op_ci (0), op_zret],
  [op_aload 0, op_getr SC 5 1, op_ci (0), op_iald SC, op_ci (3), op_icgt 3, op_aload 0, op_getr SC 5 1, op_ci (3), op_iald SC, op_ci (40), op_icgt 3, op_aload 0, op_getr SC 5 1, op_ci (4), op_iald SC, op_ci (40), op_icle 4, op_goto 3],
  [op_ci (0), op_zret],
  [op_aload 0, op_getr SC 5 0, op_aload 0, op_getr SC 5 1, op_ci (0), op_iald SC, op_aload 0, op_getr SC 5 1, op_ci (1), op_iald SC, op_aload 0, op_getr SC 5 1, op_ci (2), op_iald SC, op_aload 0, op_getr SC 5 1, op_ci (3), op_iald SC, op_aload 0, op_getr SC 5 1, op_ci (4), op_iald SC, op_invV SC m_Co_addRoad 1 5, op_zret]]
def t_Re_tellRoad : Nat → Nat := fun t => [0, 47, 49, 81, 83].getD t 0
set_option maxRecDepth 100000 in
theorem ok_Re_tellRoad : MOK SC m_Re_tellRoad c_Re_tellRoad t_Re_tellRoad := fun t => match t with
  | 0 => ⟨_, so_aload_n (i := 0) (k := 0) (by decide +kernel) rfl,
    ⟨_, so_getr (ci := 5) (k := 0) (index := 12) rfl CF_5 (by decide +kernel) (fun _ _ _ => rfl) tw_199 rfl (by decide +kernel),
    ⟨_, so_aload_n (i := 0) (k := 0) (by decide +kernel) rfl,
    ⟨_, so_getr (ci := 5) (k := 1) (index := 18) rfl CF_5 (by decide +kernel) (fun _ _ _ => rfl) tw_201 rfl (by decide +kernel),
    ⟨_, so_iconst (n := (1)) (by decide +kernel) ⟨by decide, by decide⟩,
    ⟨_, so_iald rfl (by decide +kernel),
    ⟨_, so_invV (mi' := m_Co_hasPlace) (ci := 1) (n := 1) (index := 77) rfl rfl tw_522 tw_523 ⟨tw_524, tw_67, ⟨by decide +kernel, by decide +kernel, by decide +kernel⟩, by decide +kernel⟩ tw_521 (by decide +kernel),
    ⟨_, so_ifeq (t := 1) (off := 34) (by decide +kernel) rfl,
    ⟨_, so_aload_n (i := 0) (k := 0) (by decide +kernel) rfl,
    ⟨_, so_getr (ci := 5) (k := 0) (index := 12) rfl CF_5 (by decide +kernel) (fun _ _ _ => rfl) tw_199 rfl (by decide +kernel),
    ⟨_, so_aload_n (i := 0) (k := 0) (by decide +kernel) rfl,
    ⟨_, so_getr (ci := 5) (k := 1) (index := 18) rfl CF_5 (by decide +kernel) (fun _ _ _ => rfl) tw_201 rfl (by decide +kernel),
    ⟨_, so_iconst (n := (2)) (by decide +kernel) ⟨by decide, by decide⟩,
    ⟨_, so_iald rfl (by decide +kernel),
    ⟨_, so_invV (mi' := m_Co_hasPlace) (ci := 1) (n := 1) (index := 77) rfl rfl tw_522 tw_523 ⟨tw_524, tw_67, ⟨by decide +kernel, by decide +kernel, by decide +kernel⟩, by decide +kernel⟩ tw_521 (by decide +kernel),
    ⟨_, so_ifeq (t := 1) (off := 18) (by decide +kernel) rfl,
    ⟨_, so_aload_n (i := 0) (k := 0) (by decide +kernel) rfl,
    ⟨_, so_getr (ci := 5) (k := 1) (index := 18) rfl CF_5 (by decide +kernel) (fun _ _ _ => rfl) tw_201 rfl (by decide +kernel),
    ⟨_, so_iconst (n := (1)) (by decide +kernel) ⟨by decide, by decide⟩,
    ⟨_, so_iald rfl (by decide +kernel),
    ⟨_, so_aload_n (i := 0) (k := 0) (by decide +kernel) rfl,
    ⟨_, so_getr (ci := 5) (k := 1) (index := 18) rfl CF_5 (by decide +kernel) (fun _ _ _ => rfl) tw_201 rfl (by decide +kernel),
    ⟨_, so_iconst (n := (2)) (by decide +kernel) ⟨by decide, by decide⟩,
    ⟨_, so_iald rfl (by decide +kernel),
    ⟨_, so_icne (t := 2) (off := 5) (by decide +kernel) rfl,
    ⟨_, so_fall (pc' := 0) (t := 1) rfl,
    trivial⟩⟩⟩⟩⟩⟩⟩⟩⟩⟩⟩⟩⟩⟩⟩⟩⟩⟩⟩⟩⟩⟩⟩⟩⟩⟩
  | 1 => ⟨_, so_iconst (n := (0)) (by decide +kernel) ⟨by decide, by decide⟩,
    ⟨_, so_zret (pc' := 0) rfl (by decide +kernel),
    trivial⟩⟩
  | 2 => ⟨_, so_aload_n (i := 0) (k := 0) (by decide +kernel) rfl,
    ⟨_, so_getr (ci := 5) (k := 1) (index := 18) rfl CF_5 (by decide +kernel) (fun _ _ _ => rfl) tw_201 rfl (by decide +kernel),
    ⟨_, so_iconst (n := (0)) (by decide +kernel) ⟨by decide, by decide⟩,
    ⟨_, so_iald rfl (by decide +kernel),
    ⟨_, so_iconst (n := (3)) (by decide +kernel) ⟨by decide, by decide⟩,
    ⟨_, so_icgt (t := 3) (off := 25) (by decide +kernel) rfl,
    ⟨_, so_aload_n (i := 0) (k := 0) (by decide +kernel) rfl,
    ⟨_, so_getr (ci := 5) (k := 1) (index := 18) rfl CF_5 (by decide +kernel) (fun _ _ _ => rfl) tw_201 rfl (by decide +kernel),
    ⟨_, so_iconst (n := (3)) (by decide +kernel) ⟨by decide, by decide⟩,
    ⟨_, so_iald rfl (by decide +kernel),
    ⟨_, so_bipush (n := (40)) (by decide +kernel) (by decide +kernel) ⟨by decide, by decide⟩,
    ⟨_, so_icgt (t := 3) (off := 14) (by decide +kernel) rfl,
    ⟨_, so_aload_n (i := 0) (k := 0) (by decide +kernel) rfl,
    ⟨_, so_getr (ci := 5) (k := 1) (index := 18) rfl CF_5 (by decide +kernel) (fun _ _ _ => rfl) tw_201 rfl (by decide +kernel),
    ⟨_, so_iconst (n := (4)) (by decide +kernel) ⟨by decide, by decide⟩,
    ⟨_, so_iald rfl (by decide +kernel),
    ⟨_, so_bipush (n := (40)) (by decide +kernel) (by decide +kernel) ⟨by decide, by decide⟩,
    ⟨_, so_icle (t := 4) (off := 5) (by decide +kernel) rfl,
    ⟨_, so_fall (pc' := 0) (t := 3) rfl,
    trivial⟩⟩⟩⟩⟩⟩⟩⟩⟩⟩⟩⟩⟩⟩⟩⟩⟩⟩⟩
  | 3 => ⟨_, so_iconst (n := (0)) (by decide +kernel) ⟨by decide, by decide⟩,
    ⟨_, so_zret (pc' := 0) rfl (by decide +kernel),
    trivial⟩⟩
  | 4 => ⟨_, so_aload_n (i := 0) (k := 0) (by decide +kernel) rfl,
    ⟨_, so_getr (ci := 5) (k := 0) (index := 12) rfl CF_5 (by decide +kernel) (fun _ _ _ => rfl) tw_199 rfl (by decide +kernel),
    ⟨_, so_aload_n (i := 0) (k := 0) (by decide +kernel) rfl,
    ⟨_, so_getr (ci := 5) (k := 1) (index := 18) rfl CF_5 (by decide +kernel) (fun _ _ _ => rfl) tw_201 rfl (by decide +kernel),
    ⟨_, so_iconst (n := (0)) (by decide +kernel) ⟨by decide, by decide⟩,
    ⟨_, so_iald rfl (by decide +kernel),
    ⟨_, so_aload_n (i := 0) (k := 0) (by decide +kernel) rfl,
    ⟨_, so_getr (ci := 5) (k := 1) (index := 18) rfl CF_5 (by decide +kernel) (fun _ _ _ => rfl) tw_201 rfl (by decide +kernel),
    ⟨_, so_iconst (n := (1)) (by decide +kernel) ⟨by decide, by decide⟩,
    ⟨_, so_iald rfl (by decide +kernel),
    ⟨_, so_aload_n (i := 0) (k := 0) (by decide +kernel) rfl,
    ⟨_, so_getr (ci := 5) (k := 1) (index := 18) rfl CF_5 (by decide +kernel) (fun _ _ _ => rfl) tw_201 rfl (by decide +kernel),
    ⟨_, so_iconst (n := (2)) (by decide +kernel) ⟨by decide, by decide⟩,
    ⟨_, so_iald rfl (by decide +kernel),
    ⟨_, so_aload_n (i := 0) (k := 0) (by decide +kernel) rfl,
    ⟨_, so_getr (ci := 5) (k := 1) (index := 18) rfl CF_5 (by decide +kernel) (fun _ _ _ => rfl) tw_201 rfl (by decide +kernel),
    ⟨_, so_iconst (n := (3)) (by decide +kernel) ⟨by decide, by decide⟩,
    ⟨_, so_iald rfl (by decide +kernel),
    ⟨_, so_aload_n (i := 0) (k := 0) (by decide +kernel) rfl,
    ⟨_, so_getr (ci := 5) (k := 1) (index := 18) rfl CF_5 (by decide +kernel) (fun _ _ _ => rfl) tw_201 rfl (by decide +kernel),
    ⟨_, so_iconst (n := (4)) (by decide +kernel) ⟨by decide, by decide⟩,
    ⟨_, so_iald rfl (by decide +kernel),
    ⟨_, so_invV (mi' := m_Co_addRoad) (ci := 1) (n := 5) (index := 80) rfl rfl tw_526 tw_527 ⟨tw_528, tw_67, ⟨by decide +kernel, by decide +kernel, by decide +kernel⟩, by decide +kernel⟩ tw_525 (by decide +kernel),
    ⟨_, so_zret (pc' := 0) rfl (by decide +kernel),
    trivial⟩⟩⟩⟩⟩⟩⟩⟩⟩⟩⟩⟩⟩⟩⟩⟩⟩⟩⟩⟩⟩⟩⟩⟩
  | _ + 5 => trivial
def c_Re_tellStart : List (List Op) := [
  [op_aload 0, op_getr SC 5 0, op_iload 1, op_invV SC m_Co_hasPlace 1 1, op_ifne 1, op_ci (0), op_zret],
  [op_aload 0, op_getr SC 5 0, op_getr SC 1 0, op_iload 1, op_puti SC 7 0, op_aload 0, op_getr SC 5 0, op_getr SC 1 0, op_iload 2, op_puti SC 7 1, op_ci (1), op_zret]]
def t_Re_tellStart : Nat → Nat := fun t => [0, 13].getD t 0
set_option maxRecDepth 100000 in
theorem ok_Re_tellStart : MOK SC m_Re_tellStart c_Re_tellStart t_Re_tellStart := fun t => match t with
  | 0 => ⟨_, so_aload_n (i := 0) (k := 0) (by decide +kernel) rfl,
    ⟨_, so_getr (ci := 5) (k := 0) (index := 12) rfl CF_5 (by decide +kernel) (fun _ _ _ => rfl) tw_199 rfl (by decide +kernel),
    ⟨_, so_iload_n (i := 1) (k := 1) (by decide +kernel) rfl,
    ⟨_, so_invV (mi' := m_Co_hasPlace) (ci := 1) (n := 1) (index := 77) rfl rfl tw_522 tw_523 ⟨tw_524, tw_67, ⟨by decide +kernel, by decide +kernel, by decide +kernel⟩, by decide +kernel⟩ tw_521 (by decide +kernel),
    ⟨_, so_ifne (t := 1) (off := 5) (by decide +kernel) rfl,
    ⟨_, so_iconst (n := (0)) (by decide +kernel) ⟨by decide, by decide⟩,
    ⟨_, so_zret (pc' := 0) rfl (by decide +kernel),
    trivial⟩⟩⟩⟩⟩⟩⟩
  | 1 => ⟨_, so_aload_n (i := 0) (k := 0) (by decide +kernel) rfl,
    ⟨_, so_getr (ci := 5) (k := 0) (index := 12) rfl CF_5 (by decide +kernel) (fun _ _ _ => rfl) tw_199 rfl (by decide +kernel),
    ⟨_, so_getrN (ci := 1) (k := 0) (index := 84) rfl CF_1 (by decide +kernel) (fun _ _ _ => rfl) tw_174 rfl (by decide +kernel),
    ⟨_, so_iload_n (i := 1) (k := 1) (by decide +kernel) rfl,
    ⟨_, so_putiN (ci := 7) (k := 0) (index := 88) rfl CF_7 (by decide +kernel) rfl tw_131 rfl rfl (by decide +kernel),
    ⟨_, so_aload_n (i := 0) (k := 0) (by decide +kernel) rfl,
    ⟨_, so_getr (ci := 5) (k := 0) (index := 12) rfl CF_5 (by decide +kernel) (fun _ _ _ => rfl) tw_199 rfl (by decide +kernel),
    ⟨_, so_getrN (ci := 1) (k := 0) (index := 84) rfl CF_1 (by decide +kernel) (fun _ _ _ => rfl) tw_174 rfl (by decide +kernel),
    ⟨_, so_iload_n (i := 2) (k := 2) (by decide +kernel) rfl,
    ⟨_, so_putiN (ci := 7) (k := 1) (index := 91) rfl CF_7 (by decide +kernel) rfl tw_138 rfl rfl (by decide +kernel),
    ⟨_, so_iconst (n := (1)) (by decide +kernel) ⟨by decide, by decide⟩,
    ⟨_, so_zret (pc' := 0) rfl (by decide +kernel),
    trivial⟩⟩⟩⟩⟩⟩⟩⟩⟩⟩⟩⟩
  | _ + 2 => trivial
def c_Ri_init : List (List Op) := [
  [op_aload 0, op_oinit, op_aload 0, op_ci (6), op_newa SC .int, op_putr SC 6 1, op_aload 0, op_ci (6), op_newa SC .int, op_putr SC 6 2, op_aload 0, op_ci (6), op_newa SC .int, op_putr SC 6 3, op_aload 0, op_ci (6), op_newa SC .int, op_putr SC 6 4, op_aload 0, op_aload 1, op_putr SC 6 0, op_ret]]
def t_Ri_init : Nat → Nat := fun t => [0].getD t 0
set_option maxRecDepth 100000 in
theorem ok_Ri_init : MOK SC m_Ri_init c_Ri_init t_Ri_init := fun t => match t with
  | 0 => ⟨_, so_aload_n (i := 0) (k := 0) (by decide +kernel) rfl,
    ⟨_, so_oinit (index := 3) tw_306 tw_91 tw_92 (by decide +kernel) (by decide +kernel),
    ⟨_, so_aload_n (i := 0) (k := 0) (by decide +kernel) rfl,
    ⟨_, so_bipush (n := (6)) (by decide +kernel) (by decide +kernel) ⟨by decide, by decide⟩,
    ⟨_, so_newa (atype := .int) (ty := .int) rfl (by decide) tw_166 (by decide +kernel),
    ⟨_, so_putr (ci := 6) (k := 1) (index := 9) rfl CF_6 (by decide +kernel) (Or.inr ⟨_, rfl⟩) tw_308 rfl rfl (by decide +kernel),
    ⟨_, so_aload_n (i := 0) (k := 0) (by decide +kernel) rfl,
    ⟨_, so_bipush (n := (6)) (by decide +kernel) (by decide +kernel) ⟨by decide, by decide⟩,
    ⟨_, so_newa (atype := .int) (ty := .int) rfl (by decide) tw_166 (by decide +kernel),
    ⟨_, so_putr (ci := 6) (k := 2) (index := 15) rfl CF_6 (by decide +kernel) (Or.inr ⟨_, rfl⟩) tw_309 rfl rfl (by decide +kernel),
    ⟨_, so_aload_n (i := 0) (k := 0) (by decide +kernel) rfl,
    ⟨_, so_bipush (n := (6)) (by decide +kernel) (by decide +kernel) ⟨by decide, by decide⟩,
    ⟨_, so_newa (atype := .int) (ty := .int) rfl (by decide) tw_166 (by decide +kernel),
    ⟨_, so_putr (ci := 6) (k := 3) (index := 18) rfl CF_6 (by decide +kernel) (Or.inr ⟨_, rfl⟩) tw_310 rfl rfl (by decide +kernel),
    ⟨_, so_aload_n (i := 0) (k := 0) (by decide +kernel) rfl,
    ⟨_, so_bipush (n := (6)) (by decide +kernel) (by decide +kernel) ⟨by decide, by decide⟩,
    ⟨_, so_newa (atype := .int) (ty := .int) rfl (by decide) tw_166 (by decide +kernel),
    ⟨_, so_putr (ci := 6) (k := 4) (index := 21) rfl CF_6 (by decide +kernel) (Or.inr ⟨_, rfl⟩) tw_311 rfl rfl (by decide +kernel),
    ⟨_, so_aload_n (i := 0) (k := 0) (by decide +kernel) rfl,
    ⟨_, so_aload_n (i := 1) (k := 1) (by decide +kernel) rfl,
    ⟨_, so_putrF (ci := 6) (k := 0) (index := 24) rfl CF_6 (by decide +kernel) (Or.inl ⟨_, rfl⟩) tw_307 rfl rfl rfl rfl (by decide +kernel),
    ⟨_, so_ret (pc' := 0) rfl (by decide +kernel),
    trivial⟩⟩⟩⟩⟩⟩⟩⟩⟩⟩⟩⟩⟩⟩⟩⟩⟩⟩⟩⟩⟩⟩
  | _ + 1 => trivial
def c_Ri_find : List (List Op) := [
  [op_aload 0, op_ci (7), op_puti SC 6 7, op_ci (0), op_istore 1, op_goto 1],
  [op_iload 1, op_aload 0, op_getr SC 6 0, op_invV SC m_Co_places 1 0, op_icge 2, op_aload 0, op_iload 1, op_invV SC m_Ri_findFrom 6 1, op_iinc 1 (1), op_goto 1],
  [op_aload 0, op_geti SC 6 7, op_ci (6), op_icgt 3, op_ci (1), op_goto 4],
  [op_ci (0), op_goto 4],
  [op_zret]]
def t_Ri_find : Nat → Nat := fun t => [0, 8, 30, 43, 44].getD t 0
set_option maxRecDepth 100000 in
theorem ok_Ri_find : MOK SC m_Ri_find c_Ri_find t_Ri_find := fun t => match t with
  | 0 => ⟨_, so_aload_n (i := 0) (k := 0) (by decide +kernel) rfl,
    ⟨_, so_bipush (n := (7)) (by decide +kernel) (by decide +kernel) ⟨by decide, by decide⟩,
    ⟨_, so_puti (ci := 6) (k := 7) (index := 28) rfl CF_6 (by decide +kernel) rfl tw_314 rfl rfl (by decide +kernel),
    ⟨_, so_iconst (n := (0)) (by decide +kernel) ⟨by decide, by decide⟩,
    ⟨_, so_istore_n (i := 1) (k := 1) (by decide +kernel) rfl (by decide +kernel),
    ⟨_, so_fall (pc' := 0) (t := 1) rfl,
    trivial⟩⟩⟩⟩⟩⟩
  | 1 => ⟨_, so_iload_n (i := 1) (k := 1) (by decide +kernel) rfl,
    ⟨_, so_aload_n (i := 0) (k := 0) (by decide +kernel) rfl,
    ⟨_, so_getr (ci := 6) (k := 0) (index := 24) rfl CF_6 (by decide +kernel) (fun _ _ _ => rfl) tw_307 rfl (by decide +kernel),
    ⟨_, so_invV (mi' := m_Co_places) (ci := 1) (n := 0) (index := 32) rfl rfl tw_788 tw_789 ⟨tw_790, tw_67, ⟨by decide +kernel, by decide +kernel, by decide +kernel⟩, by decide +kernel⟩ tw_884 (by decide +kernel),
    ⟨_, so_icge (t := 2) (off := 14) (by decide +kernel) rfl,
    ⟨_, so_aload_n (i := 0) (k := 0) (by decide +kernel) rfl,
    ⟨_, so_iload_n (i := 1) (k := 1) (by decide +kernel) rfl,
    ⟨_, so_invV (mi' := m_Ri_findFrom) (ci := 6) (n := 1) (index := 38) rfl rfl tw_887 tw_19 ⟨tw_888, tw_73, ⟨by decide +kernel, by decide +kernel, by decide +kernel⟩, by decide +kernel⟩ tw_885 (by decide +kernel),
    ⟨_, so_iinc (i := 1) (n := 1) (by decide +kernel) (by decide +kernel),
    ⟨_, so_goto (pc' := 0) (t := 1) (off := -19) (by decide +kernel) rfl,
    trivial⟩⟩⟩⟩⟩⟩⟩⟩⟩⟩
  | 2 => ⟨_, so_aload_n (i := 0) (k := 0) (by decide +kernel) rfl,
    ⟨_, so_geti (ci := 6) (k := 7) (index := 28) rfl CF_6 (by decide +kernel) (fun _ _ _ => rfl) tw_314 rfl (by decide +kernel),
    ⟨_, so_bipush (n := (6)) (by decide +kernel) (by decide +kernel) ⟨by decide, by decide⟩,
    ⟨_, so_icgt (t := 3) (off := 7) (by decide +kernel) rfl,
    ⟨_, so_iconst (n := (1)) (by decide +kernel) ⟨by decide, by decide⟩,
    ⟨_, so_goto (pc' := 0) (t := 4) (off := 4) (by decide +kernel) rfl,
    trivial⟩⟩⟩⟩⟩⟩
  | 3 => ⟨_, so_iconst (n := (0)) (by decide +kernel) ⟨by decide, by decide⟩,
    ⟨_, so_fall (pc' := 0) (t := 4) rfl,
    trivial⟩⟩
  | 4 => ⟨_, so_zret (pc' := 0) rfl (by decide +kernel),
    trivial⟩
  | _ + 5 => trivial
def c_Ri_findFrom : List (List Op) := [
  [op_aload 0, op_ci (1), op_iload 1, op_ishl, op_puti SC 6 5, op_aload 0, op_getr SC 6 1, op_iload 1, op_ci (0), op_iast SC, op_aload 0, op_getr SC 6 2, op_iload 1, op_ci (0), op_iast SC, op_ci (1), op_istore 2, op_goto 1],
  [op_iload 2, op_aload 0, op_geti SC 6 7, op_icge 4, op_iload 2, op_ci (6), op_icgt 4, op_aload 0, op_invV SC m_Ri_advance 6 0, op_aload 0, op_geti SC 6 5, op_ci (1), op_iload 1, op_ishl, op_iand, op_ifeq 3, op_aload 0, op_getr SC 6 1, op_iload 1, op_iald SC, op_ifne 2, op_aload 0, op_getr SC 6 2, op_iload 1, op_iald SC, op_ifeq 3, op_goto 2],
  [op_aload 0, op_iload 2, op_puti SC 6 7, op_aload 0, op_iload 1, op_puti SC 6 8, op_goto 3],
  [op_iinc 2 (1), op_goto 1],
  [op_ret]]
def t_Ri_findFrom : Nat → Nat := fun t => [0, 23, 70, 80, 86].getD t 0
set_option maxRecDepth 100000 in
theorem ok_Ri_findFrom : MOK SC m_Ri_findFrom c_Ri_findFrom t_Ri_findFrom := fun t => match t with
  | 0 => ⟨_, so_aload_n (i := 0) (k := 0) (by decide +kernel) rfl,
    ⟨_, so_iconst (n := (1)) (by decide +kernel) ⟨by decide, by decide⟩,
    ⟨_, so_iload_n (i := 1) (k := 1) (by decide +kernel) rfl,
    ⟨_, so_ishl (by decide +kernel),
    ⟨_, so_puti (ci := 6) (k := 5) (index := 42) rfl CF_6 (by decide +kernel) rfl tw_312 rfl rfl (by decide +kernel),
    ⟨_, so_aload_n (i := 0) (k := 0) (by decide +kernel) rfl,
    ⟨_, so_getr (ci := 6) (k := 1) (index := 9) rfl CF_6 (by decide +kernel) (fun _ _ _ => rfl) tw_308 rfl (by decide +kernel),
    ⟨_, so_iload_n (i := 1) (k := 1) (by decide +kernel) rfl,
    ⟨_, so_iconst (n := (0)) (by decide +kernel) ⟨by decide, by decide⟩,
    ⟨_, so_iast rfl (by decide +kernel),
    ⟨_, so_aload_n (i := 0) (k := 0) (by decide +kernel) rfl,
    ⟨_, so_getr (ci := 6) (k := 2) (index := 15) rfl CF_6 (by decide +kernel) (fun _ _ _ => rfl) tw_309 rfl (by decide +kernel),
    ⟨_, so_iload_n (i := 1) (k := 1) (by decide +kernel) rfl,
    ⟨_, so_iconst (n := (0)) (by decide +kernel) ⟨by decide, by decide⟩,
    ⟨_, so_iast rfl (by decide +kernel),
    ⟨_, so_iconst (n := (1)) (by decide +kernel) ⟨by decide, by decide⟩,
    ⟨_, so_istore_n (i := 2) (k := 2) (by decide +kernel) rfl (by decide +kernel),
    ⟨_, so_fall (pc' := 0) (t := 1) rfl,
    trivial⟩⟩⟩⟩⟩⟩⟩⟩⟩⟩⟩⟩⟩⟩⟩⟩⟩⟩
  | 1 => ⟨_, so_iload_n (i := 2) (k := 2) (by decide +kernel) rfl,
    ⟨_, so_aload_n (i := 0) (k := 0) (by decide +kernel) rfl,
    ⟨_, so_geti (ci := 6) (k := 7) (index := 28) rfl CF_6 (by decide +kernel) (fun _ _ _ => rfl) tw_314 rfl (by decide +kernel),
    ⟨_, so_icge (t := 4) (off := 58) (by decide +kernel) rfl,
    ⟨_, so_iload_n (i := 2) (k := 2) (by decide +kernel) rfl,
    ⟨_, so_bipush (n := (6)) (by decide +kernel) (by decide +kernel) ⟨by decide, by decide⟩,
    ⟨_, so_icgt (t := 4) (off := 52) (by decide +kernel) rfl,
    ⟨_, so_aload_n (i := 0) (k := 0) (by decide +kernel) rfl,
    ⟨_, so_invV (mi' := m_Ri_advance) (ci := 6) (n := 0) (index := 45) rfl rfl tw_891 tw_20 ⟨tw_892, tw_73, ⟨by decide +kernel, by decide +kernel, by decide +kernel⟩, by decide +kernel⟩ tw_889 (by decide +kernel),
    ⟨_, so_aload_n (i := 0) (k := 0) (by decide +kernel) rfl,
    ⟨_, so_geti (ci := 6) (k := 5) (index := 42) rfl CF_6 (by decide +kernel) (fun _ _ _ => rfl) tw_312 rfl (by decide +kernel),
    ⟨_, so_iconst (n := (1)) (by decide +kernel) ⟨by decide, by decide⟩,
    ⟨_, so_iload_n (i := 1) (k := 1) (by decide +kernel) rfl,
    ⟨_, so_ishl (by decide +kernel),
    ⟨_, so_iand (by decide +kernel),
    ⟨_, so_ifeq (t := 3) (off := 31) (by decide +kernel) rfl,
    ⟨_, so_aload_n (i := 0) (k := 0) (by decide +kernel) rfl,
    ⟨_, so_getr (ci := 6) (k := 1) (index := 9) rfl CF_6 (by decide +kernel) (fun _ _ _ => rfl) tw_308 rfl (by decide +kernel),
    ⟨_, so_iload_n (i := 1) (k := 1) (by decide +kernel) rfl,
    ⟨_, so_iald rfl (by decide +kernel),
    ⟨_, so_ifne (t := 2) (off := 12) (by decide +kernel) rfl,
    ⟨_, so_aload_n (i := 0) (k := 0) (by decide +kernel) rfl,
    ⟨_, so_getr (ci := 6) (k := 2) (index := 15) rfl CF_6 (by decide +kernel) (fun _ _ _ => rfl) tw_309 rfl (by decide +kernel),
    ⟨_, so_iload_n (i := 1) (k := 1) (by decide +kernel) rfl,
    ⟨_, so_iald rfl (by decide +kernel),
    ⟨_, so_ifeq (t := 3) (off := 13) (by decide +kernel) rfl,
    ⟨_, so_fall (pc' := 0) (t := 2) rfl,
    trivial⟩⟩⟩⟩⟩⟩⟩⟩⟩⟩⟩⟩⟩⟩⟩⟩⟩⟩⟩⟩⟩⟩⟩⟩⟩⟩⟩
  | 2 => ⟨_, so_aload_n (i := 0) (k := 0) (by decide +kernel) rfl,
    ⟨_, so_iload_n (i := 2) (k := 2) (by decide +kernel) rfl,
    ⟨_, so_puti (ci := 6) (k := 7) (index := 28) rfl CF_6 (by decide +kernel) rfl tw_314 rfl rfl (by decide +kernel),
    ⟨_, so_aload_n (i := 0) (k := 0) (by decide +kernel) rfl,
    ⟨_, so_iload_n (i := 1) (k := 1) (by decide +kernel) rfl,
    ⟨_, so_puti (ci := 6) (k := 8) (index := 48) rfl CF_6 (by decide +kernel) rfl tw_316 rfl rfl (by decide +kernel),
    ⟨_, so_fall (pc' := 0) (t := 3) rfl,
    trivial⟩⟩⟩⟩⟩⟩⟩
  | 3 => ⟨_, so_iinc (i := 2) (n := 1) (by decide +kernel) (by decide +kernel),
    ⟨_, so_goto (pc' := 0) (t := 1) (off := -60) (by decide +kernel) rfl,
    trivial⟩⟩
  | 4 => ⟨_, so_ret (pc' := 0) rfl (by decide +kernel),
    trivial⟩
  | _ + 5 => trivial
def c_Ri_advance : List (List Op) := [
  [op_aload 0, op_ci (0), op_puti SC 6 6, op_ci (0), op_istore 1, op_goto 1],
  [op_iload 1, op_aload 0, op_getr SC 6 0, op_invV SC m_Co_roads 1 0, op_icge 3, op_aload 0, op_getr SC 6 0, op_getr SC 1 0, op_iload 1, op_invV SC m_St_isShut 7 1, op_ifne 2, op_aload 0, op_iload 1, op_aload 0, op_getr SC 6 0, op_iload 1, op_invV SC m_Co_startOf 1 1, op_aload 0, op_getr SC 6 0, op_iload 1, op_invV SC m_Co_endOf 1 1, op_invV SC m_Ri_carry 6 3, op_aload 0, op_iload 1, op_aload 0, op_getr SC 6 0, op_iload 1, op_invV SC m_Co_endOf 1 1, op_aload 0, op_getr SC 6 0, op_iload 1, op_invV SC m_Co_startOf 1 1, op_invV SC m_Ri_carry 6 3, op_goto 2],
  [op_iinc 1 (1), op_goto 1],
  [op_aload 0, op_invV SC m_Ri_swapRows 6 0, op_ret]]
def t_Ri_advance : Nat → Nat := fun t => [0, 7, 74, 80].getD t 0
set_option maxRecDepth 100000 in
theorem ok_Ri_advance : MOK SC m_Ri_advance c_Ri_advance t_Ri_advance := fun t => match t with
  | 0 => ⟨_, so_aload_n (i := 0) (k := 0) (by decide +kernel) rfl,
    ⟨_, so_iconst (n := (0)) (by decide +kernel) ⟨by decide, by decide⟩,
    ⟨_, so_puti (ci := 6) (k := 6) (index := 51) rfl CF_6 (by decide +kernel) rfl tw_313 rfl rfl (by decide +kernel),
    ⟨_, so_iconst (n := (0)) (by decide +kernel) ⟨by decide, by decide⟩,
    ⟨_, so_istore_n (i := 1) (k := 1) (by decide +kernel) rfl (by decide +kernel),
    ⟨_, so_fall (pc' := 0) (t := 1) rfl,
    trivial⟩⟩⟩⟩⟩⟩
  | 1 => ⟨_, so_iload_n (i := 1) (k := 1) (by decide +kernel) rfl,
    ⟨_, so_aload_n (i := 0) (k := 0) (by decide +kernel) rfl,
    ⟨_, so_getr (ci := 6) (k := 0) (index := 24) rfl CF_6 (by decide +kernel) (fun _ _ _ => rfl) tw_307 rfl (by decide +kernel),
    ⟨_, so_invV (mi' := m_Co_roads) (ci := 1) (n := 0) (index := 54) rfl rfl tw_617 tw_618 ⟨tw_619, tw_67, ⟨by decide +kernel, by decide +kernel, by decide +kernel⟩, by decide +kernel⟩ tw_893 (by decide +kernel),
    ⟨_, so_icge (t := 3) (off := 65) (by decide +kernel) rfl,
    ⟨_, so_aload_n (i := 0) (k := 0) (by decide +kernel) rfl,
    ⟨_, so_getr (ci := 6) (k := 0) (index := 24) rfl CF_6 (by decide +kernel) (fun _ _ _ => rfl) tw_307 rfl (by decide +kernel),
    ⟨_, so_getrN (ci := 1) (k := 0) (index := 57) rfl CF_1 (by decide +kernel) (fun _ _ _ => rfl) tw_170 rfl (by decide +kernel),
    ⟨_, so_iload_n (i := 1) (k := 1) (by decide +kernel) rfl,
    ⟨_, so_invV (mi' := m_St_isShut) (ci := 7) (n := 1) (index := 61) rfl rfl tw_638 tw_639 ⟨tw_640, tw_68, ⟨by decide +kernel, by decide +kernel, by decide +kernel⟩, by decide +kernel⟩ tw_894 (by decide +kernel),
    ⟨_, so_ifne (t := 2) (off := 45) (by decide +kernel) rfl,
    ⟨_, so_aload_n (i := 0) (k := 0) (by decide +kernel) rfl,
    ⟨_, so_iload_n (i := 1) (k := 1) (by decide +kernel) rfl,
    ⟨_, so_aload_n (i := 0) (k := 0) (by decide +kernel) rfl,
    ⟨_, so_getr (ci := 6) (k := 0) (index := 24) rfl CF_6 (by decide +kernel) (fun _ _ _ => rfl) tw_307 rfl (by decide +kernel),
    ⟨_, so_iload_n (i := 1) (k := 1) (by decide +kernel) rfl,
    ⟨_, so_invV (mi' := m_Co_startOf) (ci := 1) (n := 1) (index := 67) rfl rfl tw_630 tw_631 ⟨tw_632, tw_67, ⟨by decide +kernel, by decide +kernel, by decide +kernel⟩, by decide +kernel⟩ tw_895 (by decide +kernel),
    ⟨_, so_aload_n (i := 0) (k := 0) (by decide +kernel) rfl,
    ⟨_, so_getr (ci := 6) (k := 0) (index := 24) rfl CF_6 (by decide +kernel) (fun _ _ _ => rfl) tw_307 rfl (by decide +kernel),
    ⟨_, so_iload_n (i := 1) (k := 1) (by decide +kernel) rfl,
    ⟨_, so_invV (mi' := m_Co_endOf) (ci := 1) (n := 1) (index := 71) rfl rfl tw_634 tw_635 ⟨tw_636, tw_67, ⟨by decide +kernel, by decide +kernel, by decide +kernel⟩, by decide +kernel⟩ tw_896 (by decide +kernel),
    ⟨_, so_invV (mi' := m_Ri_carry) (ci := 6) (n := 3) (index := 74) rfl rfl tw_899 tw_21 ⟨tw_900, tw_73, ⟨by decide +kernel, by decide +kernel, by decide +kernel⟩, by decide +kernel⟩ tw_897 (by decide +kernel),
    ⟨_, so_aload_n (i := 0) (k := 0) (by decide +kernel) rfl,
    ⟨_, so_iload_n (i := 1) (k := 1) (by decide +kernel) rfl,
    ⟨_, so_aload_n (i := 0) (k := 0) (by decide +kernel) rfl,
    ⟨_, so_getr (ci := 6) (k := 0) (index := 24) rfl CF_6 (by decide +kernel) (fun _ _ _ => rfl) tw_307 rfl (by decide +kernel),
    ⟨_, so_iload_n (i := 1) (k := 1) (by decide +kernel) rfl,
    ⟨_, so_invV (mi' := m_Co_endOf) (ci := 1) (n := 1) (index := 71) rfl rfl tw_634 tw_635 ⟨tw_636, tw_67, ⟨by decide +kernel, by decide +kernel, by decide +kernel⟩, by decide +kernel⟩ tw_896 (by decide +kernel),
    ⟨_, so_aload_n (i := 0) (k := 0) (by decide +kernel) rfl,
    ⟨_, so_getr (ci := 6) (k := 0) (index := 24) rfl CF_6 (by decide +kernel) (fun _ _ _ => rfl) tw_307 rfl (by decide +kernel),
    ⟨_, so_iload_n (i := 1) (k := 1) (by decide +kernel) rfl,
    ⟨_, so_invV (mi' := m_Co_startOf) (ci := 1) (n := 1) (index := 67) rfl rfl tw_630 tw_631 ⟨tw_632, tw_67, ⟨by decide +kernel, by decide +kernel, by decide +kernel⟩, by decide +kernel⟩ tw_895 (by decide +kernel),
    ⟨_, so_invV (mi' := m_Ri_carry) (ci := 6) (n := 3) (index := 74) rfl rfl tw_899 tw_21 ⟨tw_900, tw_73, ⟨by decide +kernel, by decide +kernel, by decide +kernel⟩, by decide +kernel⟩ tw_897 (by decide +kernel),
    ⟨_, so_fall (pc' := 0) (t := 2) rfl,
    trivial⟩⟩⟩⟩⟩⟩⟩⟩⟩⟩⟩⟩⟩⟩⟩⟩⟩⟩⟩⟩⟩⟩⟩⟩⟩⟩⟩⟩⟩⟩⟩⟩⟩⟩
  | 2 => ⟨_, so_iinc (i := 1) (n := 1) (by decide +kernel) (by decide +kernel),
    ⟨_, so_goto (pc' := 0) (t := 1) (off := -70) (by decide +kernel) rfl,
    trivial⟩⟩
  | 3 => ⟨_, so_aload_n (i := 0) (k := 0) (by decide +kernel) rfl,
    ⟨_, so_invV (mi' := m_Ri_swapRows) (ci := 6) (n := 0) (index := 78) rfl rfl tw_909 tw_22 ⟨tw_910, tw_73, ⟨by decide +kernel, by decide +kernel, by decide +kernel⟩, by decide +kernel⟩ tw_907 (by decide +kernel),
    ⟨_, so_ret (pc' := 0) rfl (by decide +kernel),
    trivial⟩⟩⟩
  | _ + 4 => trivial
def c_Ri_carry : List (List Op) := [
  [op_aload 0, op_getr SC 6 0, op_iload 2, op_invV SC m_Co_hasPlace 1 1, op_ifeq 1, op_aload 0, op_getr SC 6 0, op_iload 3, op_invV SC m_Co_hasPlace 1 1, op_ifeq 1, op_aload 0, op_geti SC 6 5, op_ci (1), op_iload 2, op_ishl, op_iand, op_ifne 2, op_goto 1],
  [op_ret],
  [op_aload 0, op_getr SC 6 0, op_iload 1, op_iload 2, op_invV SC m_Co_changeFrom 1 2, op_istore 4, op_aload 0, op_geti SC 6 6, op_ci (1), op_iload 3, op_ishl, op_iand, op_ifne 3, op_ci (1), op_goto 4],
  [op_ci (0), op_goto 4],
  [op_istore 5, op_aload 0, op_dup, op_geti SC 6 6, op_ci (1), op_iload 3, op_ishl, op_ior, op_puti SC 6 6, op_aload 0, op_getr SC 6 3, op_iload 3, op_iload 5, op_ifeq 5, op_aload 0, op_getr SC 6 1, op_iload 2, op_iald SC, op_iload 4, op_iadd, op_goto 6],
  [op_aload 0, op_getr SC 6 3, op_iload 3, op_iald SC, op_aload 0, op_getr SC 6 1, op_iload 2, op_iald SC, op_iload 4, op_iadd, op_max, op_goto 6],
  [op_iast SC, op_aload 0, op_getr SC 6 4, op_iload 3, op_iload 5, op_ifeq 7, op_aload 0, op_getr SC 6 2, op_iload 2, op_iald SC, op_iload 4, op_iadd, op_goto 8],
  [op_aload 0, op_getr SC 6 4, op_iload 3, op_iald SC, op_aload 0, op_getr SC 6 2, op_iload 2, op_iald SC, op_iload 4, op_iadd, op_min, op_goto 8],
  [op_iast SC, op_ret]]
def t_Ri_carry : Nat → Nat := fun t => [0, 33, 34, 60, 61, 97, 115, 138, 156].getD t 0
set_option maxRecDepth 100000 in
theorem ok_Ri_carry : MOK SC m_Ri_carry c_Ri_carry t_Ri_carry := fun t => match t with
  | 0 => ⟨_, so_aload_n (i := 0) (k := 0) (by decide +kernel) rfl,
    ⟨_, so_getr (ci := 6) (k := 0) (index := 24) rfl CF_6 (by decide +kernel) (fun _ _ _ => rfl) tw_307 rfl (by decide +kernel),
    ⟨_, so_iload_n (i := 2) (k := 2) (by decide +kernel) rfl,
    ⟨_, so_invV (mi' := m_Co_hasPlace) (ci := 1) (n := 1) (index := 81) rfl rfl tw_522 tw_523 ⟨tw_524, tw_67, ⟨by decide +kernel, by decide +kernel, by decide +kernel⟩, by decide +kernel⟩ tw_901 (by decide +kernel),
    ⟨_, so_ifeq (t := 1) (off := 25) (by decide +kernel) rfl,
    ⟨_, so_aload_n (i := 0) (k := 0) (by decide +kernel) rfl,
    ⟨_, so_getr (ci := 6) (k := 0) (index := 24) rfl CF_6 (by decide +kernel) (fun _ _ _ => rfl) tw_307 rfl (by decide +kernel),
    ⟨_, so_iload_n (i := 3) (k := 3) (by decide +kernel) rfl,
    ⟨_, so_invV (mi' := m_Co_hasPlace) (ci := 1) (n := 1) (index := 81) rfl rfl tw_522 tw_523 ⟨tw_524, tw_67, ⟨by decide +kernel, by decide +kernel, by decide +kernel⟩, by decide +kernel⟩ tw_901 (by decide +kernel),
    ⟨_, so_ifeq (t := 1) (off := 14) (by decide +kernel) rfl,
    ⟨_, so_aload_n (i := 0) (k := 0) (by decide +kernel) rfl,
    ⟨_, so_geti (ci := 6) (k := 5) (index := 42) rfl CF_6 (by decide +kernel) (fun _ _ _ => rfl) tw_312 rfl (by decide +kernel),
    ⟨_, so_iconst (n := (1)) (by decide +kernel) ⟨by decide, by decide⟩,
    ⟨_, so_iload_n (i := 2) (k := 2) (by decide +kernel) rfl,
    ⟨_, so_ishl (by decide +kernel),
    ⟨_, so_iand (by decide +kernel),
    ⟨_, so_ifne (t := 2) (off := 4) (by decide +kernel) rfl,
    ⟨_, so_fall (pc' := 0) (t := 1) rfl,
    trivial⟩⟩⟩⟩⟩⟩⟩⟩⟩⟩⟩⟩⟩⟩⟩⟩⟩⟩
  | 1 => ⟨_, so_ret (pc' := 0) rfl (by decide +kernel),
    trivial⟩
  | 2 => ⟨_, so_aload_n (i := 0) (k := 0) (by decide +kernel) rfl,
    ⟨_, so_getr (ci := 6) (k := 0) (index := 24) rfl CF_6 (by decide +kernel) (fun _ _ _ => rfl) tw_307 rfl (by decide +kernel),
    ⟨_, so_iload_n (i := 1) (k := 1) (by decide +kernel) rfl,
    ⟨_, so_iload_n (i := 2) (k := 2) (by decide +kernel) rfl,
    ⟨_, so_invV (mi' := m_Co_changeFrom) (ci := 1) (n := 2) (index := 84) rfl rfl tw_667 tw_668 ⟨tw_669, tw_67, ⟨by decide +kernel, by decide +kernel, by decide +kernel⟩, by decide +kernel⟩ tw_902 (by decide +kernel),
    ⟨_, so_istore (i := 4) (by decide +kernel) (by decide +kernel),
    ⟨_, so_aload_n (i := 0) (k := 0) (by decide +kernel) rfl,
    ⟨_, so_geti (ci := 6) (k := 6) (index := 51) rfl CF_6 (by decide +kernel) (fun _ _ _ => rfl) tw_313 rfl (by decide +kernel),
    ⟨_, so_iconst (n := (1)) (by decide +kernel) ⟨by decide, by decide⟩,
    ⟨_, so_iload_n (i := 3) (k := 3) (by decide +kernel) rfl,
    ⟨_, so_ishl (by decide +kernel),
    ⟨_, so_iand (by decide +kernel),
    ⟨_, so_ifne (t := 3) (off := 7) (by decide +kernel) rfl,
    ⟨_, so_iconst (n := (1)) (by decide +kernel) ⟨by decide, by decide⟩,
    ⟨_, so_goto (pc' := 0) (t := 4) (off := 4) (by decide +kernel) rfl,
    trivial⟩⟩⟩⟩⟩⟩⟩⟩⟩⟩⟩⟩⟩⟩⟩
  | 3 => ⟨_, so_iconst (n := (0)) (by decide +kernel) ⟨by decide, by decide⟩,
    ⟨_, so_fall (pc' := 0) (t := 4) rfl,
    trivial⟩⟩
  | 4 => ⟨_, so_istore (i := 5) (by decide +kernel) (by decide +kernel),
    ⟨_, so_aload_n (i := 0) (k := 0) (by decide +kernel) rfl,
    ⟨_, so_dup (by decide +kernel),
    ⟨_, so_geti (ci := 6) (k := 6) (index := 51) rfl CF_6 (by decide +kernel) (fun _ _ _ => rfl) tw_313 rfl (by decide +kernel),
    ⟨_, so_iconst (n := (1)) (by decide +kernel) ⟨by decide, by decide⟩,
    ⟨_, so_iload_n (i := 3) (k := 3) (by decide +kernel) rfl,
    ⟨_, so_ishl (by decide +kernel),
    ⟨_, so_ior (by decide +kernel),
    ⟨_, so_puti (ci := 6) (k := 6) (index := 51) rfl CF_6 (by decide +kernel) rfl tw_313 rfl rfl (by decide +kernel),
    ⟨_, so_aload_n (i := 0) (k := 0) (by decide +kernel) rfl,
    ⟨_, so_getr (ci := 6) (k := 3) (index := 18) rfl CF_6 (by decide +kernel) (fun _ _ _ => rfl) tw_310 rfl (by decide +kernel),
    ⟨_, so_iload_n (i := 3) (k := 3) (by decide +kernel) rfl,
    ⟨_, so_iload (i := 5) (by decide +kernel),
    ⟨_, so_ifeq (t := 5) (off := 15) (by decide +kernel) rfl,
    ⟨_, so_aload_n (i := 0) (k := 0) (by decide +kernel) rfl,
    ⟨_, so_getr (ci := 6) (k := 1) (index := 9) rfl CF_6 (by decide +kernel) (fun _ _ _ => rfl) tw_308 rfl (by decide +kernel),
    ⟨_, so_iload_n (i := 2) (k := 2) (by decide +kernel) rfl,
    ⟨_, so_iald rfl (by decide +kernel),
    ⟨_, so_iload (i := 4) (by decide +kernel),
    ⟨_, so_iadd (by decide +kernel),
    ⟨_, so_goto (pc' := 0) (t := 6) (off := 21) (by decide +kernel) rfl,
    trivial⟩⟩⟩⟩⟩⟩⟩⟩⟩⟩⟩⟩⟩⟩⟩⟩⟩⟩⟩⟩⟩
  | 5 => ⟨_, so_aload_n (i := 0) (k := 0) (by decide +kernel) rfl,
    ⟨_, so_getr (ci := 6) (k := 3) (index := 18) rfl CF_6 (by decide +kernel) (fun _ _ _ => rfl) tw_310 rfl (by decide +kernel),
    ⟨_, so_iload_n (i := 3) (k := 3) (by decide +kernel) rfl,
    ⟨_, so_iald rfl (by decide +kernel),
    ⟨_, so_aload_n (i := 0) (k := 0) (by decide +kernel) rfl,
    ⟨_, so_getr (ci := 6) (k := 1) (index := 9) rfl CF_6 (by decide +kernel) (fun _ _ _ => rfl) tw_308 rfl (by decide +kernel),
    ⟨_, so_iload_n (i := 2) (k := 2) (by decide +kernel) rfl,
    ⟨_, so_iald rfl (by decide +kernel),
    ⟨_, so_iload (i := 4) (by decide +kernel),
    ⟨_, so_iadd (by decide +kernel),
    ⟨_, so_max (index := 88) tw_903 tw_785 tw_84 tw_786 (by decide +kernel) (by decide +kernel),
    ⟨_, so_fall (pc' := 0) (t := 6) rfl,
    trivial⟩⟩⟩⟩⟩⟩⟩⟩⟩⟩⟩⟩
  | 6 => ⟨_, so_iast rfl (by decide +kernel),
    ⟨_, so_aload_n (i := 0) (k := 0) (by decide +kernel) rfl,
    ⟨_, so_getr (ci := 6) (k := 4) (index := 21) rfl CF_6 (by decide +kernel) (fun _ _ _ => rfl) tw_311 rfl (by decide +kernel),
    ⟨_, so_iload_n (i := 3) (k := 3) (by decide +kernel) rfl,
    ⟨_, so_iload (i := 5) (by decide +kernel),
    ⟨_, so_ifeq (t := 7) (off := 15) (by decide +kernel) rfl,
    ⟨_, so_aload_n (i := 0) (k := 0) (by decide +kernel) rfl,
    ⟨_, so_getr (ci := 6) (k := 2) (index := 15) rfl CF_6 (by decide +kernel) (fun _ _ _ => rfl) tw_309 rfl (by decide +kernel),
    ⟨_, so_iload_n (i := 2) (k := 2) (by decide +kernel) rfl,
    ⟨_, so_iald rfl (by decide +kernel),
    ⟨_, so_iload (i := 4) (by decide +kernel),
    ⟨_, so_iadd (by decide +kernel),
    ⟨_, so_goto (pc' := 0) (t := 8) (off := 21) (by decide +kernel) rfl,
    trivial⟩⟩⟩⟩⟩⟩⟩⟩⟩⟩⟩⟩⟩
  | 7 => ⟨_, so_aload_n (i := 0) (k := 0) (by decide +kernel) rfl,
    ⟨_, so_getr (ci := 6) (k := 4) (index := 21) rfl CF_6 (by decide +kernel) (fun _ _ _ => rfl) tw_311 rfl (by decide +kernel),
    ⟨_, so_iload_n (i := 3) (k := 3) (by decide +kernel) rfl,
    ⟨_, so_iald rfl (by decide +kernel),
    ⟨_, so_aload_n (i := 0) (k := 0) (by decide +kernel) rfl,
    ⟨_, so_getr (ci := 6) (k := 2) (index := 15) rfl CF_6 (by decide +kernel) (fun _ _ _ => rfl) tw_309 rfl (by decide +kernel),
    ⟨_, so_iload_n (i := 2) (k := 2) (by decide +kernel) rfl,
    ⟨_, so_iald rfl (by decide +kernel),
    ⟨_, so_iload (i := 4) (by decide +kernel),
    ⟨_, so_iadd (by decide +kernel),
    ⟨_, so_min (index := 93) tw_904 tw_905 tw_84 tw_906 (by decide +kernel) (by decide +kernel),
    ⟨_, so_fall (pc' := 0) (t := 8) rfl,
    trivial⟩⟩⟩⟩⟩⟩⟩⟩⟩⟩⟩⟩
  | 8 => ⟨_, so_iast rfl (by decide +kernel),
    ⟨_, so_ret (pc' := 0) rfl (by decide +kernel),
    trivial⟩⟩
  | _ + 9 => trivial
def c_Ri_swapRows : List (List Op) := [
  [op_aload 0, op_getr SC 6 1, op_astore 1, op_aload 0, op_getr SC 6 2, op_astore 2, op_aload 0, op_aload 0, op_getr SC 6 3, op_putr SC 6 1, op_aload 0, op_aload 0, op_getr SC 6 4, op_putr SC 6 2, op_aload 0, op_aload 1, op_putr SC 6 3, op_aload 0, op_aload 2, op_putr SC 6 4, op_aload 0, op_aload 0, op_geti SC 6 6, op_puti SC 6 5, op_ret]]
def t_Ri_swapRows : Nat → Nat := fun t => [0].getD t 0
set_option maxRecDepth 100000 in
theorem ok_Ri_swapRows : MOK SC m_Ri_swapRows c_Ri_swapRows t_Ri_swapRows := fun t => match t with
  | 0 => ⟨_, so_aload_n (i := 0) (k := 0) (by decide +kernel) rfl,
    ⟨_, so_getr (ci := 6) (k := 1) (index := 9) rfl CF_6 (by decide +kernel) (fun _ _ _ => rfl) tw_308 rfl (by decide +kernel),
    ⟨_, so_astore_n (i := 1) (k := 1) (by decide +kernel) rfl (by decide +kernel),
    ⟨_, so_aload_n (i := 0) (k := 0) (by decide +kernel) rfl,
    ⟨_, so_getr (ci := 6) (k := 2) (index := 15) rfl CF_6 (by decide +kernel) (fun _ _ _ => rfl) tw_309 rfl (by decide +kernel),
    ⟨_, so_astore_n (i := 2) (k := 2) (by decide +kernel) rfl (by decide +kernel),
    ⟨_, so_aload_n (i := 0) (k := 0) (by decide +kernel) rfl,
    ⟨_, so_aload_n (i := 0) (k := 0) (by decide +kernel) rfl,
    ⟨_, so_getr (ci := 6) (k := 3) (index := 18) rfl CF_6 (by decide +kernel) (fun _ _ _ => rfl) tw_310 rfl (by decide +kernel),
    ⟨_, so_putr (ci := 6) (k := 1) (index := 9) rfl CF_6 (by decide +kernel) (Or.inr ⟨_, rfl⟩) tw_308 rfl rfl (by decide +kernel),
    ⟨_, so_aload_n (i := 0) (k := 0) (by decide +kernel) rfl,
    ⟨_, so_aload_n (i := 0) (k := 0) (by decide +kernel) rfl,
    ⟨_, so_getr (ci := 6) (k := 4) (index := 21) rfl CF_6 (by decide +kernel) (fun _ _ _ => rfl) tw_311 rfl (by decide +kernel),
    ⟨_, so_putr (ci := 6) (k := 2) (index := 15) rfl CF_6 (by decide +kernel) (Or.inr ⟨_, rfl⟩) tw_309 rfl rfl (by decide +kernel),
    ⟨_, so_aload_n (i := 0) (k := 0) (by decide +kernel) rfl,
    ⟨_, so_aload_n (i := 1) (k := 1) (by decide +kernel) rfl,
    ⟨_, so_putr (ci := 6) (k := 3) (index := 18) rfl CF_6 (by decide +kernel) (Or.inr ⟨_, rfl⟩) tw_310 rfl rfl (by decide +kernel),
    ⟨_, so_aload_n (i := 0) (k := 0) (by decide +kernel) rfl,
    ⟨_, so_aload_n (i := 2) (k := 2) (by decide +kernel) rfl,
    ⟨_, so_putr (ci := 6) (k := 4) (index := 21) rfl CF_6 (by decide +kernel) (Or.inr ⟨_, rfl⟩) tw_311 rfl rfl (by decide +kernel),
    ⟨_, so_aload_n (i := 0) (k := 0) (by decide +kernel) rfl,
    ⟨_, so_aload_n (i := 0) (k := 0) (by decide +kernel) rfl,
    ⟨_, so_geti (ci := 6) (k := 6) (index := 51) rfl CF_6 (by decide +kernel) (fun _ _ _ => rfl) tw_313 rfl (by decide +kernel),
    ⟨_, so_puti (ci := 6) (k := 5) (index := 42) rfl CF_6 (by decide +kernel) rfl tw_312 rfl rfl (by decide +kernel),
    ⟨_, so_ret (pc' := 0) rfl (by decide +kernel),
    trivial⟩⟩⟩⟩⟩⟩⟩⟩⟩⟩⟩⟩⟩⟩⟩⟩⟩⟩⟩⟩⟩⟩⟩⟩⟩
  | _ + 1 => trivial
def c_St_init : List (List Op) := [
  [op_aload 0, op_oinit, op_aload 0, op_ci (9), op_newa SC .int, op_putr SC 7 4, op_aload 0, op_ci (9), op_newa SC .int, op_putr SC 7 5, op_ret]]
def t_St_init : Nat → Nat := fun t => [0].getD t 0
set_option maxRecDepth 100000 in
theorem ok_St_init : MOK SC m_St_init c_St_init t_St_init := fun t => match t with
  | 0 => ⟨_, so_aload_n (i := 0) (k := 0) (by decide +kernel) rfl,
    ⟨_, so_oinit (index := 3) tw_124 tw_91 tw_92 (by decide +kernel) (by decide +kernel),
    ⟨_, so_aload_n (i := 0) (k := 0) (by decide +kernel) rfl,
    ⟨_, so_bipush (n := (9)) (by decide +kernel) (by decide +kernel) ⟨by decide, by decide⟩,
    ⟨_, so_newa (atype := .int) (ty := .int) rfl (by decide) tw_166 (by decide +kernel),
    ⟨_, so_putrF (ci := 7) (k := 4) (index := 9) rfl CF_7 (by decide +kernel) (Or.inr ⟨_, rfl⟩) tw_145 rfl rfl rfl rfl (by decide +kernel),
    ⟨_, so_aload_n (i := 0) (k := 0) (by decide +kernel) rfl,
    ⟨_, so_bipush (n := (9)) (by decide +kernel) (by decide +kernel) ⟨by decide, by decide⟩,
    ⟨_, so_newa (atype := .int) (ty := .int) rfl (by decide) tw_166 (by decide +kernel),
    ⟨_, so_putrF (ci := 7) (k := 5) (index := 15) rfl CF_7 (by decide +kernel) (Or.inr ⟨_, rfl⟩) tw_149 rfl rfl rfl rfl (by decide +kernel),
    ⟨_, so_ret (pc' := 0) rfl (by decide +kernel),
    trivial⟩⟩⟩⟩⟩⟩⟩⟩⟩⟩⟩
  | _ + 1 => trivial
def c_St_isShut : List (List Op) := [
  [op_aload 0, op_geti SC 7 3, op_ci (1), op_iload 1, op_ishl, op_iand, op_ifeq 1, op_ci (1), op_goto 2],
  [op_ci (0), op_goto 2],
  [op_zret]]
def t_St_isShut : Nat → Nat := fun t => [0, 15, 16].getD t 0
set_option maxRecDepth 100000 in
theorem ok_St_isShut : MOK SC m_St_isShut c_St_isShut t_St_isShut := fun t => match t with
  | 0 => ⟨_, so_aload_n (i := 0) (k := 0) (by decide +kernel) rfl,
    ⟨_, so_geti (ci := 7) (k := 3) (index := 18) rfl CF_7 (by decide +kernel) (fun _ _ _ => rfl) tw_142 rfl (by decide +kernel),
    ⟨_, so_iconst (n := (1)) (by decide +kernel) ⟨by decide, by decide⟩,
    ⟨_, so_iload_n (i := 1) (k := 1) (by decide +kernel) rfl,
    ⟨_, so_ishl (by decide +kernel),
    ⟨_, so_iand (by decide +kernel),
    ⟨_, so_ifeq (t := 1) (off := 7) (by decide +kernel) rfl,
    ⟨_, so_iconst (n := (1)) (by decide +kernel) ⟨by decide, by decide⟩,
    ⟨_, so_goto (pc' := 0) (t := 2) (off := 4) (by decide +kernel) rfl,
    trivial⟩⟩⟩⟩⟩⟩⟩⟩⟩
  | 1 => ⟨_, so_iconst (n := (0)) (by decide +kernel) ⟨by decide, by decide⟩,
    ⟨_, so_fall (pc' := 0) (t := 2) rfl,
    trivial⟩⟩
  | 2 => ⟨_, so_zret (pc' := 0) rfl (by decide +kernel),
    trivial⟩
  | _ + 3 => trivial
def c_St_turn : List (List Op) := [
  [op_aload 0, op_dup, op_geti SC 7 3, op_ci (1), op_iload 1, op_ishl, op_ixor, op_puti SC 7 3, op_ret]]
def t_St_turn : Nat → Nat := fun t => [0].getD t 0
set_option maxRecDepth 100000 in
theorem ok_St_turn : MOK SC m_St_turn c_St_turn t_St_turn := fun t => match t with
  | 0 => ⟨_, so_aload_n (i := 0) (k := 0) (by decide +kernel) rfl,
    ⟨_, so_dup (by decide +kernel),
    ⟨_, so_geti (ci := 7) (k := 3) (index := 18) rfl CF_7 (by decide +kernel) (fun _ _ _ => rfl) tw_142 rfl (by decide +kernel),
    ⟨_, so_iconst (n := (1)) (by decide +kernel) ⟨by decide, by decide⟩,
    ⟨_, so_iload_n (i := 1) (k := 1) (by decide +kernel) rfl,
    ⟨_, so_ishl (by decide +kernel),
    ⟨_, so_ixor (by decide +kernel),
    ⟨_, so_puti (ci := 7) (k := 3) (index := 18) rfl CF_7 (by decide +kernel) rfl tw_142 rfl rfl (by decide +kernel),
    ⟨_, so_ret (pc' := 0) rfl (by decide +kernel),
    trivial⟩⟩⟩⟩⟩⟩⟩⟩⟩
  | _ + 1 => trivial
def c_St_copyFrom : List (List Op) := [
  [op_aload 0, op_aload 1, op_geti SC 7 0, op_puti SC 7 0, op_aload 0, op_aload 1, op_geti SC 7 1, op_puti SC 7 1, op_aload 0, op_aload 1, op_geti SC 7 2, op_puti SC 7 2, op_aload 0, op_aload 1, op_geti SC 7 3, op_puti SC 7 3, op_aload 1, op_getr SC 7 4, op_ci (0), op_aload 0, op_getr SC 7 4, op_ci (0), op_ci (9), op_acopy SC, op_aload 1, op_getr SC 7 5, op_ci (0), op_aload 0, op_getr SC 7 5, op_ci (0), op_ci (9), op_acopy SC, op_ret]]
def t_St_copyFrom : Nat → Nat := fun t => [0].getD t 0
set_option maxRecDepth 100000 in
theorem ok_St_copyFrom : MOK SC m_St_copyFrom c_St_copyFrom t_St_copyFrom := fun t => match t with
  | 0 => ⟨_, so_aload_n (i := 0) (k := 0) (by decide +kernel) rfl,
    ⟨_, so_aload_n (i := 1) (k := 1) (by decide +kernel) rfl,
    ⟨_, so_geti (ci := 7) (k := 0) (index := 22) rfl CF_7 (by decide +kernel) (fun _ _ _ => rfl) tw_128 rfl (by decide +kernel),
    ⟨_, so_puti (ci := 7) (k := 0) (index := 22) rfl CF_7 (by decide +kernel) rfl tw_128 rfl rfl (by decide +kernel),
    ⟨_, so_aload_n (i := 0) (k := 0) (by decide +kernel) rfl,
    ⟨_, so_aload_n (i := 1) (k := 1) (by decide +kernel) rfl,
    ⟨_, so_geti (ci := 7) (k := 1) (index := 25) rfl CF_7 (by decide +kernel) (fun _ _ _ => rfl) tw_135 rfl (by decide +kernel),
    ⟨_, so_puti (ci := 7) (k := 1) (index := 25) rfl CF_7 (by decide +kernel) rfl tw_135 rfl rfl (by decide +kernel),
    ⟨_, so_aload_n (i := 0) (k := 0) (by decide +kernel) rfl,
    ⟨_, so_aload_n (i := 1) (k := 1) (by decide +kernel) rfl,
    ⟨_, so_geti (ci := 7) (k := 2) (index := 28) rfl CF_7 (by decide +kernel) (fun _ _ _ => rfl) tw_140 rfl (by decide +kernel),
    ⟨_, so_puti (ci := 7) (k := 2) (index := 28) rfl CF_7 (by decide +kernel) rfl tw_140 rfl rfl (by decide +kernel),
    ⟨_, so_aload_n (i := 0) (k := 0) (by decide +kernel) rfl,
    ⟨_, so_aload_n (i := 1) (k := 1) (by decide +kernel) rfl,
    ⟨_, so_geti (ci := 7) (k := 3) (index := 18) rfl CF_7 (by decide +kernel) (fun _ _ _ => rfl) tw_142 rfl (by decide +kernel),
    ⟨_, so_puti (ci := 7) (k := 3) (index := 18) rfl CF_7 (by decide +kernel) rfl tw_142 rfl rfl (by decide +kernel),
    ⟨_, so_aload_n (i := 1) (k := 1) (by decide +kernel) rfl,
    ⟨_, so_getr (ci := 7) (k := 4) (index := 9) rfl CF_7 (by decide +kernel) (fun _ _ _ => rfl) tw_145 rfl (by decide +kernel),
    ⟨_, so_iconst (n := (0)) (by decide +kernel) ⟨by decide, by decide⟩,
    ⟨_, so_aload_n (i := 0) (k := 0) (by decide +kernel) rfl,
    ⟨_, so_getr (ci := 7) (k := 4) (index := 9) rfl CF_7 (by decide +kernel) (fun _ _ _ => rfl) tw_145 rfl (by decide +kernel),
    ⟨_, so_iconst (n := (0)) (by decide +kernel) ⟨by decide, by decide⟩,
    ⟨_, so_bipush (n := (9)) (by decide +kernel) (by decide +kernel) ⟨by decide, by decide⟩,
    ⟨_, so_acopy (index := 31) rfl tw_552 tw_547 tw_546 tw_80 (by decide +kernel) (by decide +kernel),
    ⟨_, so_aload_n (i := 1) (k := 1) (by decide +kernel) rfl,
    ⟨_, so_getr (ci := 7) (k := 5) (index := 15) rfl CF_7 (by decide +kernel) (fun _ _ _ => rfl) tw_149 rfl (by decide +kernel),
    ⟨_, so_iconst (n := (0)) (by decide +kernel) ⟨by decide, by decide⟩,
    ⟨_, so_aload_n (i := 0) (k := 0) (by decide +kernel) rfl,
    ⟨_, so_getr (ci := 7) (k := 5) (index := 15) rfl CF_7 (by decide +kernel) (fun _ _ _ => rfl) tw_149 rfl (by decide +kernel),
    ⟨_, so_iconst (n := (0)) (by decide +kernel) ⟨by decide, by decide⟩,
    ⟨_, so_bipush (n := (9)) (by decide +kernel) (by decide +kernel) ⟨by decide, by decide⟩,
    ⟨_, so_acopy (index := 31) rfl tw_552 tw_547 tw_546 tw_80 (by decide +kernel) (by decide +kernel),
    ⟨_, so_ret (pc' := 0) rfl (by decide +kernel),
    trivial⟩⟩⟩⟩⟩⟩⟩⟩⟩⟩⟩⟩⟩⟩⟩⟩⟩⟩⟩⟩⟩⟩⟩⟩⟩⟩⟩⟩⟩⟩⟩⟩⟩
  | _ + 1 => trivial
def c_To_init : List (List Op) := [
  [op_aload 0, op_oinit, op_aload 0, op_ci (6), op_newa SC .int, op_putr SC 8 1, op_aload 0, op_ci (6), op_newa SC .int, op_putr SC 8 2, op_aload 0, op_ci (6), op_newa SC .int, op_putr SC 8 3, op_aload 0, op_ci (6), op_newa SC .int, op_putr SC 8 4, op_aload 0, op_ci (6), op_newa SC .int, op_putr SC 8 5, op_aload 0, op_ci (6), op_newa SC .int, op_putr SC 8 7, op_aload 0, op_ci (41), op_newa SC .boolean, op_putr SC 8 8, op_aload 0, op_ci (41), op_newa SC .boolean, op_putr SC 8 9, op_aload 0, op_ci (41), op_newa SC .boolean, op_putr SC 8 10, op_aload 0, op_ci (41), op_newa SC .boolean, op_putr SC 8 11, op_aload 0, op_aload 1, op_putr SC 8 0, op_ret]]
def t_To_init : Nat → Nat := fun t => [0].getD t 0
set_option maxRecDepth 100000 in
theorem ok_To_init : MOK SC m_To_init c_To_init t_To_init := fun t => match t with
  | 0 => ⟨_, so_aload_n (i := 0) (k := 0) (by decide +kernel) rfl,
    ⟨_, so_oinit (index := 3) tw_342 tw_91 tw_92 (by decide +kernel) (by decide +kernel),
    ⟨_, so_aload_n (i := 0) (k := 0) (by decide +kernel) rfl,
    ⟨_, so_bipush (n := (6)) (by decide +kernel) (by decide +kernel) ⟨by decide, by decide⟩,
    ⟨_, so_newa (atype := .int) (ty := .int) rfl (by decide) tw_166 (by decide +kernel),
    ⟨_, so_putrF (ci := 8) (k := 1) (index := 9) rfl CF_8 (by decide +kernel) (Or.inr ⟨_, rfl⟩) tw_344 rfl rfl rfl rfl (by decide +kernel),
    ⟨_, so_aload_n (i := 0) (k := 0) (by decide +kernel) rfl,
    ⟨_, so_bipush (n := (6)) (by decide +kernel) (by decide +kernel) ⟨by decide, by decide⟩,
    ⟨_, so_newa (atype := .int) (ty := .int) rfl (by decide) tw_166 (by decide +kernel),
    ⟨_, so_putrF (ci := 8) (k := 2) (index := 15) rfl CF_8 (by decide +kernel) (Or.inr ⟨_, rfl⟩) tw_345 rfl rfl rfl rfl (by decide +kernel),
    ⟨_, so_aload_n (i := 0) (k := 0) (by decide +kernel) rfl,
    ⟨_, so_bipush (n := (6)) (by decide +kernel) (by decide +kernel) ⟨by decide, by decide⟩,
    ⟨_, so_newa (atype := .int) (ty := .int) rfl (by decide) tw_166 (by decide +kernel),
    ⟨_, so_putrF (ci := 8) (k := 3) (index := 18) rfl CF_8 (by decide +kernel) (Or.inr ⟨_, rfl⟩) tw_346 rfl rfl rfl rfl (by decide +kernel),
    ⟨_, so_aload_n (i := 0) (k := 0) (by decide +kernel) rfl,
    ⟨_, so_bipush (n := (6)) (by decide +kernel) (by decide +kernel) ⟨by decide, by decide⟩,
    ⟨_, so_newa (atype := .int) (ty := .int) rfl (by decide) tw_166 (by decide +kernel),
    ⟨_, so_putrF (ci := 8) (k := 4) (index := 21) rfl CF_8 (by decide +kernel) (Or.inr ⟨_, rfl⟩) tw_347 rfl rfl rfl rfl (by decide +kernel),
    ⟨_, so_aload_n (i := 0) (k := 0) (by decide +kernel) rfl,
    ⟨_, so_bipush (n := (6)) (by decide +kernel) (by decide +kernel) ⟨by decide, by decide⟩,
    ⟨_, so_newa (atype := .int) (ty := .int) rfl (by decide) tw_166 (by decide +kernel),
    ⟨_, so_putrF (ci := 8) (k := 5) (index := 24) rfl CF_8 (by decide +kernel) (Or.inr ⟨_, rfl⟩) tw_348 rfl rfl rfl rfl (by decide +kernel),
    ⟨_, so_aload_n (i := 0) (k := 0) (by decide +kernel) rfl,
    ⟨_, so_bipush (n := (6)) (by decide +kernel) (by decide +kernel) ⟨by decide, by decide⟩,
    ⟨_, so_newa (atype := .int) (ty := .int) rfl (by decide) tw_166 (by decide +kernel),
    ⟨_, so_putrF (ci := 8) (k := 7) (index := 27) rfl CF_8 (by decide +kernel) (Or.inr ⟨_, rfl⟩) tw_350 rfl rfl rfl rfl (by decide +kernel),
    ⟨_, so_aload_n (i := 0) (k := 0) (by decide +kernel) rfl,
    ⟨_, so_bipush (n := (41)) (by decide +kernel) (by decide +kernel) ⟨by decide, by decide⟩,
    ⟨_, so_newa (atype := .boolean) (ty := .boolean) rfl (by decide) tw_397 (by decide +kernel),
    ⟨_, so_putrF (ci := 8) (k := 8) (index := 30) rfl CF_8 (by decide +kernel) (Or.inr ⟨_, rfl⟩) tw_351 rfl rfl rfl rfl (by decide +kernel),
    ⟨_, so_aload_n (i := 0) (k := 0) (by decide +kernel) rfl,
    ⟨_, so_bipush (n := (41)) (by decide +kernel) (by decide +kernel) ⟨by decide, by decide⟩,
    ⟨_, so_newa (atype := .boolean) (ty := .boolean) rfl (by decide) tw_397 (by decide +kernel),
    ⟨_, so_putrF (ci := 8) (k := 9) (index := 34) rfl CF_8 (by decide +kernel) (Or.inr ⟨_, rfl⟩) tw_352 rfl rfl rfl rfl (by decide +kernel),
    ⟨_, so_aload_n (i := 0) (k := 0) (by decide +kernel) rfl,
    ⟨_, so_bipush (n := (41)) (by decide +kernel) (by decide +kernel) ⟨by decide, by decide⟩,
    ⟨_, so_newa (atype := .boolean) (ty := .boolean) rfl (by decide) tw_397 (by decide +kernel),
    ⟨_, so_putrF (ci := 8) (k := 10) (index := 37) rfl CF_8 (by decide +kernel) (Or.inr ⟨_, rfl⟩) tw_353 rfl rfl rfl rfl (by decide +kernel),
    ⟨_, so_aload_n (i := 0) (k := 0) (by decide +kernel) rfl,
    ⟨_, so_bipush (n := (41)) (by decide +kernel) (by decide +kernel) ⟨by decide, by decide⟩,
    ⟨_, so_newa (atype := .boolean) (ty := .boolean) rfl (by decide) tw_397 (by decide +kernel),
    ⟨_, so_putrF (ci := 8) (k := 11) (index := 40) rfl CF_8 (by decide +kernel) (Or.inr ⟨_, rfl⟩) tw_354 rfl rfl rfl rfl (by decide +kernel),
    ⟨_, so_aload_n (i := 0) (k := 0) (by decide +kernel) rfl,
    ⟨_, so_aload_n (i := 1) (k := 1) (by decide +kernel) rfl,
    ⟨_, so_putrF (ci := 8) (k := 0) (index := 43) rfl CF_8 (by decide +kernel) (Or.inl ⟨_, rfl⟩) tw_343 rfl rfl rfl rfl (by decide +kernel),
    ⟨_, so_ret (pc' := 0) rfl (by decide +kernel),
    trivial⟩⟩⟩⟩⟩⟩⟩⟩⟩⟩⟩⟩⟩⟩⟩⟩⟩⟩⟩⟩⟩⟩⟩⟩⟩⟩⟩⟩⟩⟩⟩⟩⟩⟩⟩⟩⟩⟩⟩⟩⟩⟩⟩⟩⟩⟩
  | _ + 1 => trivial
def c_To_size : List (List Op) := [
  [op_aload 0, op_geti SC 8 6, op_iret]]
def t_To_size : Nat → Nat := fun t => [0].getD t 0
set_option maxRecDepth 100000 in
theorem ok_To_size : MOK SC m_To_size c_To_size t_To_size := fun t => match t with
  | 0 => ⟨_, so_aload_n (i := 0) (k := 0) (by decide +kernel) rfl,
    ⟨_, so_geti (ci := 8) (k := 6) (index := 47) rfl CF_8 (by decide +kernel) (fun _ _ _ => rfl) tw_349 rfl (by decide +kernel),
    ⟨_, so_iret (pc' := 0) rfl (by decide +kernel),
    trivial⟩⟩⟩
  | _ + 1 => trivial
def c_To_clear : List (List Op) := [
  [op_aload 0, op_ci (0), op_puti SC 8 6, op_ret]]
def t_To_clear : Nat → Nat := fun t => [0].getD t 0
set_option maxRecDepth 100000 in
theorem ok_To_clear : MOK SC m_To_clear c_To_clear t_To_clear := fun t => match t with
  | 0 => ⟨_, so_aload_n (i := 0) (k := 0) (by decide +kernel) rfl,
    ⟨_, so_iconst (n := (0)) (by decide +kernel) ⟨by decide, by decide⟩,
    ⟨_, so_puti (ci := 8) (k := 6) (index := 47) rfl CF_8 (by decide +kernel) rfl tw_349 rfl rfl (by decide +kernel),
    ⟨_, so_ret (pc' := 0) rfl (by decide +kernel),
    trivial⟩⟩⟩⟩
  | _ + 1 => trivial
def c_To_add : List (List Op) := [
  [op_aload 0, op_geti SC 8 6, op_ci (6), op_iclt 1, op_ci (0), op_zret],
  [op_aload 0, op_getr SC 8 1, op_aload 0, op_geti SC 8 6, op_iload 1, op_iast SC, op_aload 0, op_getr SC 8 2, op_aload 0, op_geti SC 8 6, op_iload 2, op_iast SC, op_aload 0, op_getr SC 8 3, op_aload 0, op_geti SC 8 6, op_iload 3, op_iast SC, op_aload 0, op_getr SC 8 4, op_aload 0, op_geti SC 8 6, op_iload 4, op_iast SC, op_aload 0, op_getr SC 8 5, op_aload 0, op_geti SC 8 6, op_iload 5, op_iast SC, op_aload 0, op_dup, op_geti SC 8 6, op_ci (1), op_iadd, op_puti SC 8 6, op_ci (1), op_zret]]
def t_To_add : Nat → Nat := fun t => [0, 11].getD t 0
set_option maxRecDepth 100000 in
theorem ok_To_add : MOK SC m_To_add c_To_add t_To_add := fun t => match t with
  | 0 => ⟨_, so_aload_n (i := 0) (k := 0) (by decide +kernel) rfl,
    ⟨_, so_geti (ci := 8) (k := 6) (index := 47) rfl CF_8 (by decide +kernel) (fun _ _ _ => rfl) tw_349 rfl (by decide +kernel),
    ⟨_, so_bipush (n := (6)) (by decide +kernel) (by decide +kernel) ⟨by decide, by decide⟩,
    ⟨_, so_iclt (t := 1) (off := 5) (by decide +kernel) rfl,
    ⟨_, so_iconst (n := (0)) (by decide +kernel) ⟨by decide, by decide⟩,
    ⟨_, so_zret (pc' := 0) rfl (by decide +kernel),
    trivial⟩⟩⟩⟩⟩⟩
  | 1 => ⟨_, so_aload_n (i := 0) (k := 0) (by decide +kernel) rfl,
    ⟨_, so_getr (ci := 8) (k := 1) (index := 9) rfl CF_8 (by decide +kernel) (fun _ _ _ => rfl) tw_344 rfl (by decide +kernel),
    ⟨_, so_aload_n (i := 0) (k := 0) (by decide +kernel) rfl,
    ⟨_, so_geti (ci := 8) (k := 6) (index := 47) rfl CF_8 (by decide +kernel) (fun _ _ _ => rfl) tw_349 rfl (by decide +kernel),
    ⟨_, so_iload_n (i := 1) (k := 1) (by decide +kernel) rfl,
    ⟨_, so_iast rfl (by decide +kernel),
    ⟨_, so_aload_n (i := 0) (k := 0) (by decide +kernel) rfl,
    ⟨_, so_getr (ci := 8) (k := 2) (index := 15) rfl CF_8 (by decide +kernel) (fun _ _ _ => rfl) tw_345 rfl (by decide +kernel),
    ⟨_, so_aload_n (i := 0) (k := 0) (by decide +kernel) rfl,
    ⟨_, so_geti (ci := 8) (k := 6) (index := 47) rfl CF_8 (by decide +kernel) (fun _ _ _ => rfl) tw_349 rfl (by decide +kernel),
    ⟨_, so_iload_n (i := 2) (k := 2) (by decide +kernel) rfl,
    ⟨_, so_iast rfl (by decide +kernel),
    ⟨_, so_aload_n (i := 0) (k := 0) (by decide +kernel) rfl,
    ⟨_, so_getr (ci := 8) (k := 3) (index := 18) rfl CF_8 (by decide +kernel) (fun _ _ _ => rfl) tw_346 rfl (by decide +kernel),
    ⟨_, so_aload_n (i := 0) (k := 0) (by decide +kernel) rfl,
    ⟨_, so_geti (ci := 8) (k := 6) (index := 47) rfl CF_8 (by decide +kernel) (fun _ _ _ => rfl) tw_349 rfl (by decide +kernel),
    ⟨_, so_iload_n (i := 3) (k := 3) (by decide +kernel) rfl,
    ⟨_, so_iast rfl (by decide +kernel),
    ⟨_, so_aload_n (i := 0) (k := 0) (by decide +kernel) rfl,
    ⟨_, so_getr (ci := 8) (k := 4) (index := 21) rfl CF_8 (by decide +kernel) (fun _ _ _ => rfl) tw_347 rfl (by decide +kernel),
    ⟨_, so_aload_n (i := 0) (k := 0) (by decide +kernel) rfl,
    ⟨_, so_geti (ci := 8) (k := 6) (index := 47) rfl CF_8 (by decide +kernel) (fun _ _ _ => rfl) tw_349 rfl (by decide +kernel),
    ⟨_, so_iload (i := 4) (by decide +kernel),
    ⟨_, so_iast rfl (by decide +kernel),
    ⟨_, so_aload_n (i := 0) (k := 0) (by decide +kernel) rfl,
    ⟨_, so_getr (ci := 8) (k := 5) (index := 24) rfl CF_8 (by decide +kernel) (fun _ _ _ => rfl) tw_348 rfl (by decide +kernel),
    ⟨_, so_aload_n (i := 0) (k := 0) (by decide +kernel) rfl,
    ⟨_, so_geti (ci := 8) (k := 6) (index := 47) rfl CF_8 (by decide +kernel) (fun _ _ _ => rfl) tw_349 rfl (by decide +kernel),
    ⟨_, so_iload (i := 5) (by decide +kernel),
    ⟨_, so_iast rfl (by decide +kernel),
    ⟨_, so_aload_n (i := 0) (k := 0) (by decide +kernel) rfl,
    ⟨_, so_dup (by decide +kernel),
    ⟨_, so_geti (ci := 8) (k := 6) (index := 47) rfl CF_8 (by decide +kernel) (fun _ _ _ => rfl) tw_349 rfl (by decide +kernel),
    ⟨_, so_iconst (n := (1)) (by decide +kernel) ⟨by decide, by decide⟩,
    ⟨_, so_iadd (by decide +kernel),
    ⟨_, so_puti (ci := 8) (k := 6) (index := 47) rfl CF_8 (by decide +kernel) rfl tw_349 rfl rfl (by decide +kernel),
    ⟨_, so_iconst (n := (1)) (by decide +kernel) ⟨by decide, by decide⟩,
    ⟨_, so_zret (pc' := 0) rfl (by decide +kernel),
    trivial⟩⟩⟩⟩⟩⟩⟩⟩⟩⟩⟩⟩⟩⟩⟩⟩⟩⟩⟩⟩⟩⟩⟩⟩⟩⟩⟩⟩⟩⟩⟩⟩⟩⟩⟩⟩⟩⟩
  | _ + 2 => trivial
def c_To_wrongRoads : List (List Op) := [
  [op_ci (0), op_istore 1, op_ci (0), op_istore 2, op_goto 1],
  [op_iload 2, op_aload 0, op_getr SC 8 0, op_invV SC m_Co_roads 1 0, op_icge 3, op_aload 0, op_iload 2, op_invV SC m_To_suppose 8 1, op_ifeq 2, op_iload 1, op_ci (1), op_iload 2, op_ishl, op_ior, op_istore 1, op_goto 2],
  [op_iinc 2 (1), op_goto 1],
  [op_iload 1, op_iret]]
def t_To_wrongRoads : Nat → Nat := fun t => [0, 4, 29, 35].getD t 0
set_option maxRecDepth 100000 in
theorem ok_To_wrongRoads : MOK SC m_To_wrongRoads c_To_wrongRoads t_To_wrongRoads := fun t => match t with
  | 0 => ⟨_, so_iconst (n := (0)) (by decide +kernel) ⟨by decide, by decide⟩,
    ⟨_, so_istore_n (i := 1) (k := 1) (by decide +kernel) rfl (by decide +kernel),
    ⟨_, so_iconst (n := (0)) (by decide +kernel) ⟨by decide, by decide⟩,
    ⟨_, so_istore_n (i := 2) (k := 2) (by decide +kernel) rfl (by decide +kernel),
    ⟨_, so_fall (pc' := 0) (t := 1) rfl,
    trivial⟩⟩⟩⟩⟩
  | 1 => ⟨_, so_iload_n (i := 2) (k := 2) (by decide +kernel) rfl,
    ⟨_, so_aload_n (i := 0) (k := 0) (by decide +kernel) rfl,
    ⟨_, so_getr (ci := 8) (k := 0) (index := 43) rfl CF_8 (by decide +kernel) (fun _ _ _ => rfl) tw_343 rfl (by decide +kernel),
    ⟨_, so_invV (mi' := m_Co_roads) (ci := 1) (n := 0) (index := 51) rfl rfl tw_617 tw_618 ⟨tw_619, tw_67, ⟨by decide +kernel, by decide +kernel, by decide +kernel⟩, by decide +kernel⟩ tw_961 (by decide +kernel),
    ⟨_, so_icge (t := 3) (off := 23) (by decide +kernel) rfl,
    ⟨_, so_aload_n (i := 0) (k := 0) (by decide +kernel) rfl,
    ⟨_, so_iload_n (i := 2) (k := 2) (by decide +kernel) rfl,
    ⟨_, so_invV (mi' := m_To_suppose) (ci := 8) (n := 1) (index := 57) rfl rfl tw_964 tw_24 ⟨tw_965, tw_74, ⟨by decide +kernel, by decide +kernel, by decide +kernel⟩, by decide +kernel⟩ tw_962 (by decide +kernel),
    ⟨_, so_ifeq (t := 2) (off := 9) (by decide +kernel) rfl,
    ⟨_, so_iload_n (i := 1) (k := 1) (by decide +kernel) rfl,
    ⟨_, so_iconst (n := (1)) (by decide +kernel) ⟨by decide, by decide⟩,
    ⟨_, so_iload_n (i := 2) (k := 2) (by decide +kernel) rfl,
    ⟨_, so_ishl (by decide +kernel),
    ⟨_, so_ior (by decide +kernel),
    ⟨_, so_istore_n (i := 1) (k := 1) (by decide +kernel) rfl (by decide +kernel),
    ⟨_, so_fall (pc' := 0) (t := 2) rfl,
    trivial⟩⟩⟩⟩⟩⟩⟩⟩⟩⟩⟩⟩⟩⟩⟩⟩
  | 2 => ⟨_, so_iinc (i := 2) (n := 1) (by decide +kernel) (by decide +kernel),
    ⟨_, so_goto (pc' := 0) (t := 1) (off := -28) (by decide +kernel) rfl,
    trivial⟩⟩
  | 3 => ⟨_, so_iload_n (i := 1) (k := 1) (by decide +kernel) rfl,
    ⟨_, so_iret (pc' := 0) rfl (by decide +kernel),
    trivial⟩⟩
  | _ + 4 => trivial
def c_To_findWalk : List (List Op) := [
  [op_aload 0, op_invV SC m_To_wrongRoads 8 0, op_istore 1, op_aload 0, op_ci (0), op_puti SC 8 16, op_iload 1, op_ifne 1, op_ci (0), op_zret],
  [op_ci (0), op_istore 2, op_goto 2],
  [op_iload 2, op_aload 0, op_getr SC 8 0, op_invV SC m_Co_roads 1 0, op_icge 4, op_aload 0, op_getr SC 8 0, op_iload 2, op_aload 0, op_getr SC 8 0, op_getr SC 1 0, op_geti SC 7 0, op_invV SC m_Co_canBeCrossed 1 2, op_ifeq 3, op_aload 0, op_iload 2, op_iload 1, op_invV SC m_To_unlikeSums 8 2, op_istore 3, op_iload 3, op_aload 0, op_geti SC 8 16, op_icle 3, op_aload 0, op_iload 2, op_puti SC 8 15, op_aload 0, op_iload 3, op_puti SC 8 16, op_goto 3],
  [op_iinc 2 (1), op_goto 2],
  [op_aload 0, op_geti SC 8 16, op_ifle 5, op_ci (1), op_goto 6],
  [op_ci (0), op_goto 6],
  [op_zret]]
def t_To_findWalk : Nat → Nat := fun t => [0, 16, 18, 75, 81, 92, 93].getD t 0
set_option maxRecDepth 100000 in
theorem ok_To_findWalk : MOK SC m_To_findWalk c_To_findWalk t_To_findWalk := fun t => match t with
  | 0 => ⟨_, so_aload_n (i := 0) (k := 0) (by decide +kernel) rfl,
    ⟨_, so_invV (mi' := m_To_wrongRoads) (ci := 8) (n := 0) (index := 61) rfl rfl tw_958 tw_959 ⟨tw_960, tw_74, ⟨by decide +kernel, by decide +kernel, by decide +kernel⟩, by decide +kernel⟩ tw_994 (by decide +kernel),
    ⟨_, so_istore_n (i := 1) (k := 1) (by decide +kernel) rfl (by decide +kernel),
    ⟨_, so_aload_n (i := 0) (k := 0) (by decide +kernel) rfl,
    ⟨_, so_iconst (n := (0)) (by decide +kernel) ⟨by decide, by decide⟩,
    ⟨_, so_puti (ci := 8) (k := 16) (index := 64) rfl CF_8 (by decide +kernel) rfl tw_360 rfl rfl (by decide +kernel),
    ⟨_, so_iload_n (i := 1) (k := 1) (by decide +kernel) rfl,
    ⟨_, so_ifne (t := 1) (off := 5) (by decide +kernel) rfl,
    ⟨_, so_iconst (n := (0)) (by decide +kernel) ⟨by decide, by decide⟩,
    ⟨_, so_zret (pc' := 0) rfl (by decide +kernel),
    trivial⟩⟩⟩⟩⟩⟩⟩⟩⟩⟩
  | 1 => ⟨_, so_iconst (n := (0)) (by decide +kernel) ⟨by decide, by decide⟩,
    ⟨_, so_istore_n (i := 2) (k := 2) (by decide +kernel) rfl (by decide +kernel),
    ⟨_, so_fall (pc' := 0) (t := 2) rfl,
    trivial⟩⟩⟩
  | 2 => ⟨_, so_iload_n (i := 2) (k := 2) (by decide +kernel) rfl,
    ⟨_, so_aload_n (i := 0) (k := 0) (by decide +kernel) rfl,
    ⟨_, so_getr (ci := 8) (k := 0) (index := 43) rfl CF_8 (by decide +kernel) (fun _ _ _ => rfl) tw_343 rfl (by decide +kernel),
    ⟨_, so_invV (mi' := m_Co_roads) (ci := 1) (n := 0) (index := 51) rfl rfl tw_617 tw_618 ⟨tw_619, tw_67, ⟨by decide +kernel, by decide +kernel, by decide +kernel⟩, by decide +kernel⟩ tw_961 (by decide +kernel),
    ⟨_, so_icge (t := 4) (off := 55) (by decide +kernel) rfl,
    ⟨_, so_aload_n (i := 0) (k := 0) (by decide +kernel) rfl,
    ⟨_, so_getr (ci := 8) (k := 0) (index := 43) rfl CF_8 (by decide +kernel) (fun _ _ _ => rfl) tw_343 rfl (by decide +kernel),
    ⟨_, so_iload_n (i := 2) (k := 2) (by decide +kernel) rfl,
    ⟨_, so_aload_n (i := 0) (k := 0) (by decide +kernel) rfl,
    ⟨_, so_getr (ci := 8) (k := 0) (index := 43) rfl CF_8 (by decide +kernel) (fun _ _ _ => rfl) tw_343 rfl (by decide +kernel),
    ⟨_, so_getrN (ci := 1) (k := 0) (index := 67) rfl CF_1 (by decide +kernel) (fun _ _ _ => rfl) tw_172 rfl (by decide +kernel),
    ⟨_, so_getiN (ci := 7) (k := 0) (index := 71) rfl CF_7 (by decide +kernel) (fun _ _ _ => rfl) tw_129 rfl (by decide +kernel),
    ⟨_, so_invV (mi' := m_Co_canBeCrossed) (ci := 1) (n := 2) (index := 76) rfl rfl tw_658 tw_659 ⟨tw_660, tw_67, ⟨by decide +kernel, by decide +kernel, by decide +kernel⟩, by decide +kernel⟩ tw_995 (by decide +kernel),
    ⟨_, so_ifeq (t := 3) (off := 28) (by decide +kernel) rfl,
    ⟨_, so_aload_n (i := 0) (k := 0) (by decide +kernel) rfl,
    ⟨_, so_iload_n (i := 2) (k := 2) (by decide +kernel) rfl,
    ⟨_, so_iload_n (i := 1) (k := 1) (by decide +kernel) rfl,
    ⟨_, so_invV (mi' := m_To_unlikeSums) (ci := 8) (n := 2) (index := 80) rfl rfl tw_998 tw_29 ⟨tw_999, tw_74, ⟨by decide +kernel, by decide +kernel, by decide +kernel⟩, by decide +kernel⟩ tw_996 (by decide +kernel),
    ⟨_, so_istore_n (i := 3) (k := 3) (by decide +kernel) rfl (by decide +kernel),
    ⟨_, so_iload_n (i := 3) (k := 3) (by decide +kernel) rfl,
    ⟨_, so_aload_n (i := 0) (k := 0) (by decide +kernel) rfl,
    ⟨_, so_geti (ci := 8) (k := 16) (index := 64) rfl CF_8 (by decide +kernel) (fun _ _ _ => rfl) tw_360 rfl (by decide +kernel),
    ⟨_, so_icle (t := 3) (off := 13) (by decide +kernel) rfl,
    ⟨_, so_aload_n (i := 0) (k := 0) (by decide +kernel) rfl,
    ⟨_, so_iload_n (i := 2) (k := 2) (by decide +kernel) rfl,
    ⟨_, so_puti (ci := 8) (k := 15) (index := 84) rfl CF_8 (by decide +kernel) rfl tw_358 rfl rfl (by decide +kernel),
    ⟨_, so_aload_n (i := 0) (k := 0) (by decide +kernel) rfl,
    ⟨_, so_iload_n (i := 3) (k := 3) (by decide +kernel) rfl,
    ⟨_, so_puti (ci := 8) (k := 16) (index := 64) rfl CF_8 (by decide +kernel) rfl tw_360 rfl rfl (by decide +kernel),
    ⟨_, so_fall (pc' := 0) (t := 3) rfl,
    trivial⟩⟩⟩⟩⟩⟩⟩⟩⟩⟩⟩⟩⟩⟩⟩⟩⟩⟩⟩⟩⟩⟩⟩⟩⟩⟩⟩⟩⟩⟩
  | 3 => ⟨_, so_iinc (i := 2) (n := 1) (by decide +kernel) (by decide +kernel),
    ⟨_, so_goto (pc' := 0) (t := 2) (off := -60) (by decide +kernel) rfl,
    trivial⟩⟩
  | 4 => ⟨_, so_aload_n (i := 0) (k := 0) (by decide +kernel) rfl,
    ⟨_, so_geti (ci := 8) (k := 16) (index := 64) rfl CF_8 (by decide +kernel) (fun _ _ _ => rfl) tw_360 rfl (by decide +kernel),
    ⟨_, so_ifle (t := 5) (off := 7) (by decide +kernel) rfl,
    ⟨_, so_iconst (n := (1)) (by decide +kernel) ⟨by decide, by decide⟩,
    ⟨_, so_goto (pc' := 0) (t := 6) (off := 4) (by decide +kernel) rfl,
    trivial⟩⟩⟩⟩⟩
  | 5 => ⟨_, so_iconst (n := (0)) (by decide +kernel) ⟨by decide, by decide⟩,
    ⟨_, so_fall (pc' := 0) (t := 6) rfl,
    trivial⟩⟩
  | 6 => ⟨_, so_zret (pc' := 0) rfl (by decide +kernel),
    trivial⟩
  | _ + 7 => trivial
def c_To_unlikeSums : List (List Op) := [
  [op_aload 0, op_iload 1, op_invV SC m_To_suppose 8 1, op_istore 3, op_iload 2, op_ci (1), op_iload 1, op_ishl, op_ci (-1), op_ixor, op_iand, op_ifeq 1, op_ci (1), op_goto 2],
  [op_ci (0), op_goto 2],
  [op_istore 4, op_aload 0, op_getr SC 8 0, op_getr SC 1 0, op_geti SC 7 0, op_istore 5, op_aload 0, op_getr SC 8 0, op_iload 1, op_invV SC m_Co_startOf 1 1, op_iload 5, op_icne 3, op_aload 0, op_getr SC 8 10, op_goto 4],
  [op_aload 0, op_getr SC 8 11, op_goto 4],
  [op_astore 6, op_ci (0), op_istore 7, op_ci (-1), op_istore 8, op_ci (0), op_istore 9, op_goto 5],
  [op_iload 9, op_ci (40), op_icgt 10, op_iload 4, op_ifeq 6, op_iload 9, op_aload 0, op_getr SC 8 0, op_iload 1, op_iload 5, op_invV SC m_Co_figureFrom 1 2, op_icne 6, op_ci (1), op_goto 7],
  [op_ci (0), op_goto 7],
  [op_istore 10, op_aload 0, op_getr SC 8 0, op_iload 1, op_iload 9, op_aload 0, op_getr SC 8 0, op_getr SC 1 0, op_geti SC 7 1, op_invV SC m_Co_sumBy 1 3, op_istore 11, op_iload 10, op_ifne 8, op_iload 3, op_ifeq 9, op_aload 6, op_iload 9, op_zald SC, op_ifeq 9, op_goto 8],
  [op_iload 11, op_iload 8, op_iceq 9, op_iinc 7 (1), op_iload 11, op_istore 8, op_goto 9],
  [op_iinc 9 (1), op_goto 5],
  [op_iload 7, op_iret]]
def t_To_unlikeSums : Nat → Nat := fun t => [0, 20, 21, 55, 59, 70, 101, 102, 143, 157, 163].getD t 0
set_option maxRecDepth 100000 in
theorem ok_To_unlikeSums : MOK SC m_To_unlikeSums c_To_unlikeSums t_To_unlikeSums := fun t => match t with
  | 0 => ⟨_, so_aload_n (i := 0) (k := 0) (by decide +kernel) rfl,
    ⟨_, so_iload_n (i := 1) (k := 1) (by decide +kernel) rfl,
    ⟨_, so_invV (mi' := m_To_suppose) (ci := 8) (n := 1) (index := 57) rfl rfl tw_964 tw_24 ⟨tw_965, tw_74, ⟨by decide +kernel, by decide +kernel, by decide +kernel⟩, by decide +kernel⟩ tw_962 (by decide +kernel),
    ⟨_, so_istore_n (i := 3) (k := 3) (by decide +kernel) rfl (by decide +kernel),
    ⟨_, so_iload_n (i := 2) (k := 2) (by decide +kernel) rfl,
    ⟨_, so_iconst (n := (1)) (by decide +kernel) ⟨by decide, by decide⟩,
    ⟨_, so_iload_n (i := 1) (k := 1) (by decide +kernel) rfl,
    ⟨_, so_ishl (by decide +kernel),
    ⟨_, so_iconst (n := (-1)) (by decide +kernel) ⟨by decide, by decide⟩,
    ⟨_, so_ixor (by decide +kernel),
    ⟨_, so_iand (by decide +kernel),
    ⟨_, so_ifeq (t := 1) (off := 7) (by decide +kernel) rfl,
    ⟨_, so_iconst (n := (1)) (by decide +kernel) ⟨by decide, by decide⟩,
    ⟨_, so_goto (pc' := 0) (t := 2) (off := 4) (by decide +kernel) rfl,
    trivial⟩⟩⟩⟩⟩⟩⟩⟩⟩⟩⟩⟩⟩⟩
  | 1 => ⟨_, so_iconst (n := (0)) (by decide +kernel) ⟨by decide, by decide⟩,
    ⟨_, so_fall (pc' := 0) (t := 2) rfl,
    trivial⟩⟩
  | 2 => ⟨_, so_istore (i := 4) (by decide +kernel) (by decide +kernel),
    ⟨_, so_aload_n (i := 0) (k := 0) (by decide +kernel) rfl,
    ⟨_, so_getr (ci := 8) (k := 0) (index := 43) rfl CF_8 (by decide +kernel) (fun _ _ _ => rfl) tw_343 rfl (by decide +kernel),
    ⟨_, so_getrN (ci := 1) (k := 0) (index := 67) rfl CF_1 (by decide +kernel) (fun _ _ _ => rfl) tw_172 rfl (by decide +kernel),
    ⟨_, so_getiN (ci := 7) (k := 0) (index := 71) rfl CF_7 (by decide +kernel) (fun _ _ _ => rfl) tw_129 rfl (by decide +kernel),
    ⟨_, so_istore (i := 5) (by decide +kernel) (by decide +kernel),
    ⟨_, so_aload_n (i := 0) (k := 0) (by decide +kernel) rfl,
    ⟨_, so_getr (ci := 8) (k := 0) (index := 43) rfl CF_8 (by decide +kernel) (fun _ _ _ => rfl) tw_343 rfl (by decide +kernel),
    ⟨_, so_iload_n (i := 1) (k := 1) (by decide +kernel) rfl,
    ⟨_, so_invV (mi' := m_Co_startOf) (ci := 1) (n := 1) (index := 87) rfl rfl tw_630 tw_631 ⟨tw_632, tw_67, ⟨by decide +kernel, by decide +kernel, by decide +kernel⟩, by decide +kernel⟩ tw_975 (by decide +kernel),
    ⟨_, so_iload (i := 5) (by decide +kernel),
    ⟨_, so_icne (t := 3) (off := 10) (by decide +kernel) rfl,
    ⟨_, so_aload_n (i := 0) (k := 0) (by decide +kernel) rfl,
    ⟨_, so_getr (ci := 8) (k := 10) (index := 37) rfl CF_8 (by decide +kernel) (fun _ _ _ => rfl) tw_353 rfl (by decide +kernel),
    ⟨_, so_goto (pc' := 0) (t := 4) (off := 7) (by decide +kernel) rfl,
    trivial⟩⟩⟩⟩⟩⟩⟩⟩⟩⟩⟩⟩⟩⟩⟩
  | 3 => ⟨_, so_aload_n (i := 0) (k := 0) (by decide +kernel) rfl,
    ⟨_, so_getr (ci := 8) (k := 11) (index := 40) rfl CF_8 (by decide +kernel) (fun _ _ _ => rfl) tw_354 rfl (by decide +kernel),
    ⟨_, so_fall (pc' := 0) (t := 4) rfl,
    trivial⟩⟩⟩
  | 4 => ⟨_, so_astore (i := 6) (by decide +kernel) (by decide +kernel),
    ⟨_, so_iconst (n := (0)) (by decide +kernel) ⟨by decide, by decide⟩,
    ⟨_, so_istore (i := 7) (by decide +kernel) (by decide +kernel),
    ⟨_, so_iconst (n := (-1)) (by decide +kernel) ⟨by decide, by decide⟩,
    ⟨_, so_istore (i := 8) (by decide +kernel) (by decide +kernel),
    ⟨_, so_iconst (n := (0)) (by decide +kernel) ⟨by decide, by decide⟩,
    ⟨_, so_istore (i := 9) (by decide +kernel) (by decide +kernel),
    ⟨_, so_fall (pc' := 0) (t := 5) rfl,
    trivial⟩⟩⟩⟩⟩⟩⟩⟩
  | 5 => ⟨_, so_iload (i := 9) (by decide +kernel),
    ⟨_, so_bipush (n := (40)) (by decide +kernel) (by decide +kernel) ⟨by decide, by decide⟩,
    ⟨_, so_icgt (t := 10) (off := 89) (by decide +kernel) rfl,
    ⟨_, so_iload (i := 4) (by decide +kernel),
    ⟨_, so_ifeq (t := 6) (off := 22) (by decide +kernel) rfl,
    ⟨_, so_iload (i := 9) (by decide +kernel),
    ⟨_, so_aload_n (i := 0) (k := 0) (by decide +kernel) rfl,
    ⟨_, so_getr (ci := 8) (k := 0) (index := 43) rfl CF_8 (by decide +kernel) (fun _ _ _ => rfl) tw_343 rfl (by decide +kernel),
    ⟨_, so_iload_n (i := 1) (k := 1) (by decide +kernel) rfl,
    ⟨_, so_iload (i := 5) (by decide +kernel),
    ⟨_, so_invV (mi' := m_Co_figureFrom) (ci := 1) (n := 2) (index := 91) rfl rfl tw_671 tw_672 ⟨tw_673, tw_67, ⟨by decide +kernel, by decide +kernel, by decide +kernel⟩, by decide +kernel⟩ tw_984 (by decide +kernel),
    ⟨_, so_icne (t := 6) (off := 7) (by decide +kernel) rfl,
    ⟨_, so_iconst (n := (1)) (by decide +kernel) ⟨by decide, by decide⟩,
    ⟨_, so_goto (pc' := 0) (t := 7) (off := 4) (by decide +kernel) rfl,
    trivial⟩⟩⟩⟩⟩⟩⟩⟩⟩⟩⟩⟩⟩⟩
  | 6 => ⟨_, so_iconst (n := (0)) (by decide +kernel) ⟨by decide, by decide⟩,
    ⟨_, so_fall (pc' := 0) (t := 7) rfl,
    trivial⟩⟩
  | 7 => ⟨_, so_istore (i := 10) (by decide +kernel) (by decide +kernel),
    ⟨_, so_aload_n (i := 0) (k := 0) (by decide +kernel) rfl,
    ⟨_, so_getr (ci := 8) (k := 0) (index := 43) rfl CF_8 (by decide +kernel) (fun _ _ _ => rfl) tw_343 rfl (by decide +kernel),
    ⟨_, so_iload_n (i := 1) (k := 1) (by decide +kernel) rfl,
    ⟨_, so_iload (i := 9) (by decide +kernel),
    ⟨_, so_aload_n (i := 0) (k := 0) (by decide +kernel) rfl,
    ⟨_, so_getr (ci := 8) (k := 0) (index := 43) rfl CF_8 (by decide +kernel) (fun _ _ _ => rfl) tw_343 rfl (by decide +kernel),
    ⟨_, so_getrN (ci := 1) (k := 0) (index := 67) rfl CF_1 (by decide +kernel) (fun _ _ _ => rfl) tw_172 rfl (by decide +kernel),
    ⟨_, so_getiN (ci := 7) (k := 1) (index := 94) rfl CF_7 (by decide +kernel) (fun _ _ _ => rfl) tw_137 rfl (by decide +kernel),
    ⟨_, so_invV (mi' := m_Co_sumBy) (ci := 1) (n := 3) (index := 97) rfl rfl tw_679 tw_680 ⟨tw_681, tw_67, ⟨by decide +kernel, by decide +kernel, by decide +kernel⟩, by decide +kernel⟩ tw_985 (by decide +kernel),
    ⟨_, so_istore (i := 11) (by decide +kernel) (by decide +kernel),
    ⟨_, so_iload (i := 10) (by decide +kernel),
    ⟨_, so_ifne (t := 8) (off := 15) (by decide +kernel) rfl,
    ⟨_, so_iload_n (i := 3) (k := 3) (by decide +kernel) rfl,
    ⟨_, so_ifeq (t := 9) (off := 25) (by decide +kernel) rfl,
    ⟨_, so_aload (i := 6) (by decide +kernel),
    ⟨_, so_iload (i := 9) (by decide +kernel),
    ⟨_, so_zald rfl (by decide +kernel),
    ⟨_, so_ifeq (t := 9) (off := 17) (by decide +kernel) rfl,
    ⟨_, so_fall (pc' := 0) (t := 8) rfl,
    trivial⟩⟩⟩⟩⟩⟩⟩⟩⟩⟩⟩⟩⟩⟩⟩⟩⟩⟩⟩⟩
  | 8 => ⟨_, so_iload (i := 11) (by decide +kernel),
    ⟨_, so_iload (i := 8) (by decide +kernel),
    ⟨_, so_iceq (t := 9) (off := 10) (by decide +kernel) rfl,
    ⟨_, so_iinc (i := 7) (n := 1) (by decide +kernel) (by decide +kernel),
    ⟨_, so_iload (i := 11) (by decide +kernel),
    ⟨_, so_istore (i := 8) (by decide +kernel) (by decide +kernel),
    ⟨_, so_fall (pc' := 0) (t := 9) rfl,
    trivial⟩⟩⟩⟩⟩⟩⟩
  | 9 => ⟨_, so_iinc (i := 9) (n := 1) (by decide +kernel) (by decide +kernel),
    ⟨_, so_goto (pc' := 0) (t := 5) (off := -90) (by decide +kernel) rfl,
    trivial⟩⟩
  | 10 => ⟨_, so_iload (i := 7) (by decide +kernel),
    ⟨_, so_iret (pc' := 0) rfl (by decide +kernel),
    trivial⟩⟩
  | _ + 11 => trivial
def c_To_suppose : List (List Op) := [
  [op_aload 0, op_iload 1, op_puti SC 8 12, op_aload 0, op_iload 1, op_invV SC m_To_sortByWays 8 1, op_aload 0, op_ci (0), op_invV SC m_To_hold 8 1, op_istore 2, op_ci (0), op_istore 3, op_goto 1],
  [op_iload 3, op_ci (40), op_icgt 6, op_aload 0, op_iload 3, op_puti SC 8 13, op_aload 0, op_iload 3, op_puti SC 8 14, op_aload 0, op_getr SC 8 8, op_iload 3, op_iload 2, op_ifeq 2, op_aload 0, op_ci (1), op_invV SC m_To_hold 8 1, op_ifeq 2, op_ci (1), op_goto 3],
  [op_ci (0), op_goto 3],
  [op_zast SC, op_aload 0, op_getr SC 8 9, op_iload 3, op_iload 2, op_ifeq 4, op_aload 0, op_ci (2), op_invV SC m_To_hold 8 1, op_ifeq 4, op_ci (1), op_goto 5],
  [op_ci (0), op_goto 5],
  [op_zast SC, op_aload 0, op_getr SC 8 10, op_iload 3, op_ci (0), op_zast SC, op_aload 0, op_getr SC 8 11, op_iload 3, op_ci (0), op_zast SC, op_iinc 3 (1), op_goto 1],
  [op_ci (0), op_istore 3, op_ci (0), op_istore 4, op_goto 7],
  [op_iload 4, op_ci (40), op_icgt 11, op_ci (0), op_istore 5, op_goto 8],
  [op_iload 5, op_ci (40), op_icgt 10, op_aload 0, op_iload 4, op_puti SC 8 13, op_aload 0, op_iload 5, op_puti SC 8 14, op_aload 0, op_getr SC 8 8, op_iload 4, op_zald SC, op_ifeq 9, op_aload 0, op_getr SC 8 9, op_iload 5, op_zald SC, op_ifeq 9, op_aload 0, op_ci (3), op_invV SC m_To_hold 8 1, op_ifeq 9, op_aload 0, op_getr SC 8 10, op_iload 4, op_ci (1), op_zast SC, op_aload 0, op_getr SC 8 11, op_iload 5, op_ci (1), op_zast SC, op_ci (1), op_istore 3, op_goto 9],
  [op_iinc 5 (1), op_goto 8],
  [op_iinc 4 (1), op_goto 7],
  [op_iload 3, op_zret]]
def t_To_suppose : Nat → Nat := fun t => [0, 18, 55, 56, 78, 79, 100, 105, 115, 180, 186, 192].getD t 0
set_option maxRecDepth 100000 in
theorem ok_To_suppose : MOK SC m_To_suppose c_To_suppose t_To_suppose := fun t => match t with
  | 0 => ⟨_, so_aload_n (i := 0) (k := 0) (by decide +kernel) rfl,
    ⟨_, so_iload_n (i := 1) (k := 1) (by decide +kernel) rfl,
    ⟨_, so_puti (ci := 8) (k := 12) (index := 101) rfl CF_8 (by decide +kernel) rfl tw_355 rfl rfl (by decide +kernel),
    ⟨_, so_aload_n (i := 0) (k := 0) (by decide +kernel) rfl,
    ⟨_, so_iload_n (i := 1) (k := 1) (by decide +kernel) rfl,
    ⟨_, so_invV (mi' := m_To_sortByWays) (ci := 8) (n := 1) (index := 104) rfl rfl tw_968 tw_25 ⟨tw_969, tw_74, ⟨by decide +kernel, by decide +kernel, by decide +kernel⟩, by decide +kernel⟩ tw_966 (by decide +kernel),
    ⟨_, so_aload_n (i := 0) (k := 0) (by decide +kernel) rfl,
    ⟨_, so_iconst (n := (0)) (by decide +kernel) ⟨by decide, by decide⟩,
    ⟨_, so_invV (mi' := m_To_hold) (ci := 8) (n := 1) (index := 108) rfl rfl tw_978 tw_27 ⟨tw_979, tw_74, ⟨by decide +kernel, by decide +kernel, by decide +kernel⟩, by decide +kernel⟩ tw_976 (by decide +kernel),
    ⟨_, so_istore_n (i := 2) (k := 2) (by decide +kernel) rfl (by decide +kernel),
    ⟨_, so_iconst (n := (0)) (by decide +kernel) ⟨by decide, by decide⟩,
    ⟨_, so_istore_n (i := 3) (k := 3) (by decide +kernel) rfl (by decide +kernel),
    ⟨_, so_fall (pc' := 0) (t := 1) rfl,
    trivial⟩⟩⟩⟩⟩⟩⟩⟩⟩⟩⟩⟩⟩
  | 1 => ⟨_, so_iload_n (i := 3) (k := 3) (by decide +kernel) rfl,
    ⟨_, so_bipush (n := (40)) (by decide +kernel) (by decide +kernel) ⟨by decide, by decide⟩,
    ⟨_, so_icgt (t := 6) (off := 79) (by decide +kernel) rfl,
    ⟨_, so_aload_n (i := 0) (k := 0) (by decide +kernel) rfl,
    ⟨_, so_iload_n (i := 3) (k := 3) (by decide +kernel) rfl,
    ⟨_, so_puti (ci := 8) (k := 13) (index := 111) rfl CF_8 (by decide +kernel) rfl tw_356 rfl rfl (by decide +kernel),
    ⟨_, so_aload_n (i := 0) (k := 0) (by decide +kernel) rfl,
    ⟨_, so_iload_n (i := 3) (k := 3) (by decide +kernel) rfl,
    ⟨_, so_puti (ci := 8) (k := 14) (index := 114) rfl CF_8 (by decide +kernel) rfl tw_357 rfl rfl (by decide +kernel),
    ⟨_, so_aload_n (i := 0) (k := 0) (by decide +kernel) rfl,
    ⟨_, so_getr (ci := 8) (k := 8) (index := 30) rfl CF_8 (by decide +kernel) (fun _ _ _ => rfl) tw_351 rfl (by decide +kernel),
    ⟨_, so_iload_n (i := 3) (k := 3) (by decide +kernel) rfl,
    ⟨_, so_iload_n (i := 2) (k := 2) (by decide +kernel) rfl,
    ⟨_, so_ifeq (t := 2) (off := 15) (by decide +kernel) rfl,
    ⟨_, so_aload_n (i := 0) (k := 0) (by decide +kernel) rfl,
    ⟨_, so_iconst (n := (1)) (by decide +kernel) ⟨by decide, by decide⟩,
    ⟨_, so_invV (mi' := m_To_hold) (ci := 8) (n := 1) (index := 108) rfl rfl tw_978 tw_27 ⟨tw_979, tw_74, ⟨by decide +kernel, by decide +kernel, by decide +kernel⟩, by decide +kernel⟩ tw_976 (by decide +kernel),
    ⟨_, so_ifeq (t := 2) (off := 7) (by decide +kernel) rfl,
    ⟨_, so_iconst (n := (1)) (by decide +kernel) ⟨by decide, by decide⟩,
    ⟨_, so_goto (pc' := 0) (t := 3) (off := 4) (by decide +kernel) rfl,
    trivial⟩⟩⟩⟩⟩⟩⟩⟩⟩⟩⟩⟩⟩⟩⟩⟩⟩⟩⟩⟩
  | 2 => ⟨_, so_iconst (n := (0)) (by decide +kernel) ⟨by decide, by decide⟩,
    ⟨_, so_fall (pc' := 0) (t := 3) rfl,
    trivial⟩⟩
  | 3 => ⟨_, so_zast rfl (by decide +kernel),
    ⟨_, so_aload_n (i := 0) (k := 0) (by decide +kernel) rfl,
    ⟨_, so_getr (ci := 8) (k := 9) (index := 34) rfl CF_8 (by decide +kernel) (fun _ _ _ => rfl) tw_352 rfl (by decide +kernel),
    ⟨_, so_iload_n (i := 3) (k := 3) (by decide +kernel) rfl,
    ⟨_, so_iload_n (i := 2) (k := 2) (by decide +kernel) rfl,
    ⟨_, so_ifeq (t := 4) (off := 15) (by decide +kernel) rfl,
    ⟨_, so_aload_n (i := 0) (k := 0) (by decide +kernel) rfl,
    ⟨_, so_iconst (n := (2)) (by decide +kernel) ⟨by decide, by decide⟩,
    ⟨_, so_invV (mi' := m_To_hold) (ci := 8) (n := 1) (index := 108) rfl rfl tw_978 tw_27 ⟨tw_979, tw_74, ⟨by decide +kernel, by decide +kernel, by decide +kernel⟩, by decide +kernel⟩ tw_976 (by decide +kernel),
    ⟨_, so_ifeq (t := 4) (off := 7) (by decide +kernel) rfl,
    ⟨_, so_iconst (n := (1)) (by decide +kernel) ⟨by decide, by decide⟩,
    ⟨_, so_goto (pc' := 0) (t := 5) (off := 4) (by decide +kernel) rfl,
    trivial⟩⟩⟩⟩⟩⟩⟩⟩⟩⟩⟩⟩
  | 4 => ⟨_, so_iconst (n := (0)) (by decide +kernel) ⟨by decide, by decide⟩,
    ⟨_, so_fall (pc' := 0) (t := 5) rfl,
    trivial⟩⟩
  | 5 => ⟨_, so_zast rfl (by decide +kernel),
    ⟨_, so_aload_n (i := 0) (k := 0) (by decide +kernel) rfl,
    ⟨_, so_getr (ci := 8) (k := 10) (index := 37) rfl CF_8 (by decide +kernel) (fun _ _ _ => rfl) tw_353 rfl (by decide +kernel),
    ⟨_, so_iload_n (i := 3) (k := 3) (by decide +kernel) rfl,
    ⟨_, so_iconst (n := (0)) (by decide +kernel) ⟨by decide, by decide⟩,
    ⟨_, so_zast rfl (by decide +kernel),
    ⟨_, so_aload_n (i := 0) (k := 0) (by decide +kernel) rfl,
    ⟨_, so_getr (ci := 8) (k := 11) (index := 40) rfl CF_8 (by decide +kernel) (fun _ _ _ => rfl) tw_354 rfl (by decide +kernel),
    ⟨_, so_iload_n (i := 3) (k := 3) (by decide +kernel) rfl,
    ⟨_, so_iconst (n := (0)) (by decide +kernel) ⟨by decide, by decide⟩,
    ⟨_, so_zast rfl (by decide +kernel),
    ⟨_, so_iinc (i := 3) (n := 1) (by decide +kernel) (by decide +kernel),
    ⟨_, so_goto (pc' := 0) (t := 1) (off := -79) (by decide +kernel) rfl,
    trivial⟩⟩⟩⟩⟩⟩⟩⟩⟩⟩⟩⟩⟩
  | 6 => ⟨_, so_iconst (n := (0)) (by decide +kernel) ⟨by decide, by decide⟩,
    ⟨_, so_istore_n (i := 3) (k := 3) (by decide +kernel) rfl (by decide +kernel),
    ⟨_, so_iconst (n := (0)) (by decide +kernel) ⟨by decide, by decide⟩,
    ⟨_, so_istore (i := 4) (by decide +kernel) (by decide +kernel),
    ⟨_, so_fall (pc' := 0) (t := 7) rfl,
    trivial⟩⟩⟩⟩⟩
  | 7 => ⟨_, so_iload (i := 4) (by decide +kernel),
    ⟨_, so_bipush (n := (40)) (by decide +kernel) (by decide +kernel) ⟨by decide, by decide⟩,
    ⟨_, so_icgt (t := 11) (off := 83) (by decide +kernel) rfl,
    ⟨_, so_iconst (n := (0)) (by decide +kernel) ⟨by decide, by decide⟩,
    ⟨_, so_istore (i := 5) (by decide +kernel) (by decide +kernel),
    ⟨_, so_fall (pc' := 0) (t := 8) rfl,
    trivial⟩⟩⟩⟩⟩⟩
  | 8 => ⟨_, so_iload (i := 5) (by decide +kernel),
    ⟨_, so_bipush (n := (40)) (by decide +kernel) (by decide +kernel) ⟨by decide, by decide⟩,
    ⟨_, so_icgt (t := 10) (off := 67) (by decide +kernel) rfl,
    ⟨_, so_aload_n (i := 0) (k := 0) (by decide +kernel) rfl,
    ⟨_, so_iload (i := 4) (by decide +kernel),
    ⟨_, so_puti (ci := 8) (k := 13) (index := 111) rfl CF_8 (by decide +kernel) rfl tw_356 rfl rfl (by decide +kernel),
    ⟨_, so_aload_n (i := 0) (k := 0) (by decide +kernel) rfl,
    ⟨_, so_iload (i := 5) (by decide +kernel),
    ⟨_, so_puti (ci := 8) (k := 14) (index := 114) rfl CF_8 (by decide +kernel) rfl tw_357 rfl rfl (by decide +kernel),
    ⟨_, so_aload_n (i := 0) (k := 0) (by decide +kernel) rfl,
    ⟨_, so_getr (ci := 8) (k := 8) (index := 30) rfl CF_8 (by decide +kernel) (fun _ _ _ => rfl) tw_351 rfl (by decide +kernel),
    ⟨_, so_iload (i := 4) (by decide +kernel),
    ⟨_, so_zald rfl (by decide +kernel),
    ⟨_, so_ifeq (t := 9) (off := 39) (by decide +kernel) rfl,
    ⟨_, so_aload_n (i := 0) (k := 0) (by decide +kernel) rfl,
    ⟨_, so_getr (ci := 8) (k := 9) (index := 34) rfl CF_8 (by decide +kernel) (fun _ _ _ => rfl) tw_352 rfl (by decide +kernel),
    ⟨_, so_iload (i := 5) (by decide +kernel),
    ⟨_, so_zald rfl (by decide +kernel),
    ⟨_, so_ifeq (t := 9) (off := 29) (by decide +kernel) rfl,
    ⟨_, so_aload_n (i := 0) (k := 0) (by decide +kernel) rfl,
    ⟨_, so_iconst (n := (3)) (by decide +kernel) ⟨by decide, by decide⟩,
    ⟨_, so_invV (mi' := m_To_hold) (ci := 8) (n := 1) (index := 108) rfl rfl tw_978 tw_27 ⟨tw_979, tw_74, ⟨by decide +kernel, by decide +kernel, by decide +kernel⟩, by decide +kernel⟩ tw_976 (by decide +kernel),
    ⟨_, so_ifeq (t := 9) (off := 21) (by decide +kernel) rfl,
    ⟨_, so_aload_n (i := 0) (k := 0) (by decide +kernel) rfl,
    ⟨_, so_getr (ci := 8) (k := 10) (index := 37) rfl CF_8 (by decide +kernel) (fun _ _ _ => rfl) tw_353 rfl (by decide +kernel),
    ⟨_, so_iload (i := 4) (by decide +kernel),
    ⟨_, so_iconst (n := (1)) (by decide +kernel) ⟨by decide, by decide⟩,
    ⟨_, so_zast rfl (by decide +kernel),
    ⟨_, so_aload_n (i := 0) (k := 0) (by decide +kernel) rfl,
    ⟨_, so_getr (ci := 8) (k := 11) (index := 40) rfl CF_8 (by decide +kernel) (fun _ _ _ => rfl) tw_354 rfl (by decide +kernel),
    ⟨_, so_iload (i := 5) (by decide +kernel),
    ⟨_, so_iconst (n := (1)) (by decide +kernel) ⟨by decide, by decide⟩,
    ⟨_, so_zast rfl (by decide +kernel),
    ⟨_, so_iconst (n := (1)) (by decide +kernel) ⟨by decide, by decide⟩,
    ⟨_, so_istore_n (i := 3) (k := 3) (by decide +kernel) rfl (by decide +kernel),
    ⟨_, so_fall (pc' := 0) (t := 9) rfl,
    trivial⟩⟩⟩⟩⟩⟩⟩⟩⟩⟩⟩⟩⟩⟩⟩⟩⟩⟩⟩⟩⟩⟩⟩⟩⟩⟩⟩⟩⟩⟩⟩⟩⟩⟩⟩⟩
  | 9 => ⟨_, so_iinc (i := 5) (n := 1) (by decide +kernel) (by decide +kernel),
    ⟨_, so_goto (pc' := 0) (t := 8) (off := -68) (by decide +kernel) rfl,
    trivial⟩⟩
  | 10 => ⟨_, so_iinc (i := 4) (n := 1) (by decide +kernel) (by decide +kernel),
    ⟨_, so_goto (pc' := 0) (t := 7) (off := -84) (by decide +kernel) rfl,
    trivial⟩⟩
  | 11 => ⟨_, so_iload_n (i := 3) (k := 3) (by decide +kernel) rfl,
    ⟨_, so_zret (pc' := 0) rfl (by decide +kernel),
    trivial⟩⟩
  | _ + 12 => trivial
def c_To_sortByWays : List (List Op) := [
  [op_ci (0), op_istore 2, op_goto 1],
  [op_iload 2, op_aload 0, op_geti SC 8 6, op_icge 2, op_aload 0, op_getr SC 8 0, op_aload 0, op_getr SC 8 3, op_iload 2, op_iald SC, op_aload 0, op_getr SC 8 1, op_iload 2, op_iald SC, op_invV SC m_Co_otherEnd 1 2, op_istore 3, op_aload 0, op_getr SC 8 7, op_iload 2, op_aload 0, op_iload 1, op_aload 0, op_getr SC 8 3, op_iload 2, op_iald SC, op_aload 0, op_getr SC 8 1, op_iload 2, op_iald SC, op_invV SC m_To_wayOver 8 3, op_aload 0, op_iload 1, op_aload 0, op_getr SC 8 4, op_iload 2, op_iald SC, op_iload 3, op_invV SC m_To_wayOver 8 3, op_ior, op_iast SC, op_iinc 2 (1), op_goto 1],
  [op_ret]]
def t_To_sortByWays : Nat → Nat := fun t => [0, 2, 72].getD t 0
set_option maxRecDepth 100000 in
theorem ok_To_sortByWays : MOK SC m_To_sortByWays c_To_sortByWays t_To_sortByWays := fun t => match t with
  | 0 => ⟨_, so_iconst (n := (0)) (by decide +kernel) ⟨by decide, by decide⟩,
    ⟨_, so_istore_n (i := 2) (k := 2) (by decide +kernel) rfl (by decide +kernel),
    ⟨_, so_fall (pc' := 0) (t := 1) rfl,
    trivial⟩⟩⟩
  | 1 => ⟨_, so_iload_n (i := 2) (k := 2) (by decide +kernel) rfl,
    ⟨_, so_aload_n (i := 0) (k := 0) (by decide +kernel) rfl,
    ⟨_, so_geti (ci := 8) (k := 6) (index := 47) rfl CF_8 (by decide +kernel) (fun _ _ _ => rfl) tw_349 rfl (by decide +kernel),
    ⟨_, so_icge (t := 2) (off := 65) (by decide +kernel) rfl,
    ⟨_, so_aload_n (i := 0) (k := 0) (by decide +kernel) rfl,
    ⟨_, so_getr (ci := 8) (k := 0) (index := 43) rfl CF_8 (by decide +kernel) (fun _ _ _ => rfl) tw_343 rfl (by decide +kernel),
    ⟨_, so_aload_n (i := 0) (k := 0) (by decide +kernel) rfl,
    ⟨_, so_getr (ci := 8) (k := 3) (index := 18) rfl CF_8 (by decide +kernel) (fun _ _ _ => rfl) tw_346 rfl (by decide +kernel),
    ⟨_, so_iload_n (i := 2) (k := 2) (by decide +kernel) rfl,
    ⟨_, so_iald rfl (by decide +kernel),
    ⟨_, so_aload_n (i := 0) (k := 0) (by decide +kernel) rfl,
    ⟨_, so_getr (ci := 8) (k := 1) (index := 9) rfl CF_8 (by decide +kernel) (fun _ _ _ => rfl) tw_344 rfl (by decide +kernel),
    ⟨_, so_iload_n (i := 2) (k := 2) (by decide +kernel) rfl,
    ⟨_, so_iald rfl (by decide +kernel),
    ⟨_, so_invV (mi' := m_Co_otherEnd) (ci := 1) (n := 2) (index := 117) rfl rfl tw_683 tw_684 ⟨tw_685, tw_67, ⟨by decide +kernel, by decide +kernel, by decide +kernel⟩, by decide +kernel⟩ tw_970 (by decide +kernel),
    ⟨_, so_istore_n (i := 3) (k := 3) (by decide +kernel) rfl (by decide +kernel),
    ⟨_, so_aload_n (i := 0) (k := 0) (by decide +kernel) rfl,
    ⟨_, so_getr (ci := 8) (k := 7) (index := 27) rfl CF_8 (by decide +kernel) (fun _ _ _ => rfl) tw_350 rfl (by decide +kernel),
    ⟨_, so_iload_n (i := 2) (k := 2) (by decide +kernel) rfl,
    ⟨_, so_aload_n (i := 0) (k := 0) (by decide +kernel) rfl,
    ⟨_, so_iload_n (i := 1) (k := 1) (by decide +kernel) rfl,
    ⟨_, so_aload_n (i := 0) (k := 0) (by decide +kernel) rfl,
    ⟨_, so_getr (ci := 8) (k := 3) (index := 18) rfl CF_8 (by decide +kernel) (fun _ _ _ => rfl) tw_346 rfl (by decide +kernel),
    ⟨_, so_iload_n (i := 2) (k := 2) (by decide +kernel) rfl,
    ⟨_, so_iald rfl (by decide +kernel),
    ⟨_, so_aload_n (i := 0) (k := 0) (by decide +kernel) rfl,
    ⟨_, so_getr (ci := 8) (k := 1) (index := 9) rfl CF_8 (by decide +kernel) (fun _ _ _ => rfl) tw_344 rfl (by decide +kernel),
    ⟨_, so_iload_n (i := 2) (k := 2) (by decide +kernel) rfl,
    ⟨_, so_iald rfl (by decide +kernel),
    ⟨_, so_invV (mi' := m_To_wayOver) (ci := 8) (n := 3) (index := 120) rfl rfl tw_973 tw_26 ⟨tw_974, tw_74, ⟨by decide +kernel, by decide +kernel, by decide +kernel⟩, by decide +kernel⟩ tw_971 (by decide +kernel),
    ⟨_, so_aload_n (i := 0) (k := 0) (by decide +kernel) rfl,
    ⟨_, so_iload_n (i := 1) (k := 1) (by decide +kernel) rfl,
    ⟨_, so_aload_n (i := 0) (k := 0) (by decide +kernel) rfl,
    ⟨_, so_getr (ci := 8) (k := 4) (index := 21) rfl CF_8 (by decide +kernel) (fun _ _ _ => rfl) tw_347 rfl (by decide +kernel),
    ⟨_, so_iload_n (i := 2) (k := 2) (by decide +kernel) rfl,
    ⟨_, so_iald rfl (by decide +kernel),
    ⟨_, so_iload_n (i := 3) (k := 3) (by decide +kernel) rfl,
    ⟨_, so_invV (mi' := m_To_wayOver) (ci := 8) (n := 3) (index := 120) rfl rfl tw_973 tw_26 ⟨tw_974, tw_74, ⟨by decide +kernel, by decide +kernel, by decide +kernel⟩, by decide +kernel⟩ tw_971 (by decide +kernel),
    ⟨_, so_ior (by decide +kernel),
    ⟨_, so_iast rfl (by decide +kernel),
    ⟨_, so_iinc (i := 2) (n := 1) (by decide +kernel) (by decide +kernel),
    ⟨_, so_goto (pc' := 0) (t := 1) (off := -67) (by decide +kernel) rfl,
    trivial⟩⟩⟩⟩⟩⟩⟩⟩⟩⟩⟩⟩⟩⟩⟩⟩⟩⟩⟩⟩⟩⟩⟩⟩⟩⟩⟩⟩⟩⟩⟩⟩⟩⟩⟩⟩⟩⟩⟩⟩⟩⟩
  | 2 => ⟨_, so_ret (pc' := 0) rfl (by decide +kernel),
    trivial⟩
  | _ + 3 => trivial
def c_To_wayOver : List (List Op) := [
  [op_iload 2, op_iload 1, op_iceq 1, op_ci (0), op_iret],
  [op_aload 0, op_getr SC 8 0, op_iload 1, op_invV SC m_Co_startOf 1 1, op_iload 3, op_icne 2, op_ci (1), op_goto 3],
  [op_ci (2), op_goto 3],
  [op_iret]]
def t_To_wayOver : Nat → Nat := fun t => [0, 7, 23, 24].getD t 0
set_option maxRecDepth 100000 in
theorem ok_To_wayOver : MOK SC m_To_wayOver c_To_wayOver t_To_wayOver := fun t => match t with
  | 0 => ⟨_, so_iload_n (i := 2) (k := 2) (by decide +kernel) rfl,
    ⟨_, so_iload_n (i := 1) (k := 1) (by decide +kernel) rfl,
    ⟨_, so_iceq (t := 1) (off := 5) (by decide +kernel) rfl,
    ⟨_, so_iconst (n := (0)) (by decide +kernel) ⟨by decide, by decide⟩,
    ⟨_, so_iret (pc' := 0) rfl (by decide +kernel),
    trivial⟩⟩⟩⟩⟩
  | 1 => ⟨_, so_aload_n (i := 0) (k := 0) (by decide +kernel) rfl,
    ⟨_, so_getr (ci := 8) (k := 0) (index := 43) rfl CF_8 (by decide +kernel) (fun _ _ _ => rfl) tw_343 rfl (by decide +kernel),
    ⟨_, so_iload_n (i := 1) (k := 1) (by decide +kernel) rfl,
    ⟨_, so_invV (mi' := m_Co_startOf) (ci := 1) (n := 1) (index := 87) rfl rfl tw_630 tw_631 ⟨tw_632, tw_67, ⟨by decide +kernel, by decide +kernel, by decide +kernel⟩, by decide +kernel⟩ tw_975 (by decide +kernel),
    ⟨_, so_iload_n (i := 3) (k := 3) (by decide +kernel) rfl,
    ⟨_, so_icne (t := 2) (off := 7) (by decide +kernel) rfl,
    ⟨_, so_iconst (n := (1)) (by decide +kernel) ⟨by decide, by decide⟩,
    ⟨_, so_goto (pc' := 0) (t := 3) (off := 4) (by decide +kernel) rfl,
    trivial⟩⟩⟩⟩⟩⟩⟩⟩
  | 2 => ⟨_, so_iconst (n := (2)) (by decide +kernel) ⟨by decide, by decide⟩,
    ⟨_, so_fall (pc' := 0) (t := 3) rfl,
    trivial⟩⟩
  | 3 => ⟨_, so_iret (pc' := 0) rfl (by decide +kernel),
    trivial⟩
  | _ + 4 => trivial
def c_To_hold : List (List Op) := [
  [op_ci (0), op_istore 2, op_goto 1],
  [op_iload 2, op_aload 0, op_geti SC 8 6, op_icge 4, op_aload 0, op_getr SC 8 7, op_iload 2, op_iald SC, op_iload 1, op_icne 3, op_aload 0, op_aload 0, op_getr SC 8 3, op_iload 2, op_iald SC, op_aload 0, op_getr SC 8 1, op_iload 2, op_iald SC, op_aload 0, op_getr SC 8 2, op_iload 2, op_iald SC, op_invV SC m_To_supposedSum 8 3, op_istore 3, op_aload 0, op_getr SC 8 4, op_iload 2, op_iald SC, op_ci (-4), op_iceq 2, op_aload 0, op_aload 0, op_getr SC 8 4, op_iload 2, op_iald SC, op_aload 0, op_getr SC 8 0, op_aload 0, op_getr SC 8 3, op_iload 2, op_iald SC, op_aload 0, op_getr SC 8 1, op_iload 2, op_iald SC, op_invV SC m_Co_otherEnd 1 2, op_iload 3, op_invV SC m_To_supposedSum 8 3, op_istore 3, op_goto 2],
  [op_iload 3, op_aload 0, op_getr SC 8 5, op_iload 2, op_iald SC, op_iceq 3, op_ci (0), op_zret],
  [op_iinc 2 (1), op_goto 1],
  [op_ci (1), op_zret]]
def t_To_hold : Nat → Nat := fun t => [0, 2, 85, 97, 103].getD t 0
set_option maxRecDepth 100000 in
theorem ok_To_hold : MOK SC m_To_hold c_To_hold t_To_hold := fun t => match t with
  | 0 => ⟨_, so_iconst (n := (0)) (by decide +kernel) ⟨by decide, by decide⟩,
    ⟨_, so_istore_n (i := 2) (k := 2) (by decide +kernel) rfl (by decide +kernel),
    ⟨_, so_fall (pc' := 0) (t := 1) rfl,
    trivial⟩⟩⟩
  | 1 => ⟨_, so_iload_n (i := 2) (k := 2) (by decide +kernel) rfl,
    ⟨_, so_aload_n (i := 0) (k := 0) (by decide +kernel) rfl,
    ⟨_, so_geti (ci := 8) (k := 6) (index := 47) rfl CF_8 (by decide +kernel) (fun _ _ _ => rfl) tw_349 rfl (by decide +kernel),
    ⟨_, so_icge (t := 4) (off := 96) (by decide +kernel) rfl,
    ⟨_, so_aload_n (i := 0) (k := 0) (by decide +kernel) rfl,
    ⟨_, so_getr (ci := 8) (k := 7) (index := 27) rfl CF_8 (by decide +kernel) (fun _ _ _ => rfl) tw_350 rfl (by decide +kernel),
    ⟨_, so_iload_n (i := 2) (k := 2) (by decide +kernel) rfl,
    ⟨_, so_iald rfl (by decide +kernel),
    ⟨_, so_iload_n (i := 1) (k := 1) (by decide +kernel) rfl,
    ⟨_, so_icne (t := 3) (off := 80) (by decide +kernel) rfl,
    ⟨_, so_aload_n (i := 0) (k := 0) (by decide +kernel) rfl,
    ⟨_, so_aload_n (i := 0) (k := 0) (by decide +kernel) rfl,
    ⟨_, so_getr (ci := 8) (k := 3) (index := 18) rfl CF_8 (by decide +kernel) (fun _ _ _ => rfl) tw_346 rfl (by decide +kernel),
    ⟨_, so_iload_n (i := 2) (k := 2) (by decide +kernel) rfl,
    ⟨_, so_iald rfl (by decide +kernel),
    ⟨_, so_aload_n (i := 0) (k := 0) (by decide +kernel) rfl,
    ⟨_, so_getr (ci := 8) (k := 1) (index := 9) rfl CF_8 (by decide +kernel) (fun _ _ _ => rfl) tw_344 rfl (by decide +kernel),
    ⟨_, so_iload_n (i := 2) (k := 2) (by decide +kernel) rfl,
    ⟨_, so_iald rfl (by decide +kernel),
    ⟨_, so_aload_n (i := 0) (k := 0) (by decide +kernel) rfl,
    ⟨_, so_getr (ci := 8) (k := 2) (index := 15) rfl CF_8 (by decide +kernel) (fun _ _ _ => rfl) tw_345 rfl (by decide +kernel),
    ⟨_, so_iload_n (i := 2) (k := 2) (by decide +kernel) rfl,
    ⟨_, so_iald rfl (by decide +kernel),
    ⟨_, so_invV (mi' := m_To_supposedSum) (ci := 8) (n := 3) (index := 123) rfl rfl tw_982 tw_28 ⟨tw_983, tw_74, ⟨by decide +kernel, by decide +kernel, by decide +kernel⟩, by decide +kernel⟩ tw_980 (by decide +kernel),
    ⟨_, so_istore_n (i := 3) (k := 3) (by decide +kernel) rfl (by decide +kernel),
    ⟨_, so_aload_n (i := 0) (k := 0) (by decide +kernel) rfl,
    ⟨_, so_getr (ci := 8) (k := 4) (index := 21) rfl CF_8 (by decide +kernel) (fun _ _ _ => rfl) tw_347 rfl (by decide +kernel),
    ⟨_, so_iload_n (i := 2) (k := 2) (by decide +kernel) rfl,
    ⟨_, so_iald rfl (by decide +kernel),
    ⟨_, so_bipush (n := (-4)) (by decide +kernel) (by decide +kernel) ⟨by decide, by decide⟩,
    ⟨_, so_iceq (t := 2) (off := 34) (by decide +kernel) rfl,
    ⟨_, so_aload_n (i := 0) (k := 0) (by decide +kernel) rfl,
    ⟨_, so_aload_n (i := 0) (k := 0) (by decide +kernel) rfl,
    ⟨_, so_getr (ci := 8) (k := 4) (index := 21) rfl CF_8 (by decide +kernel) (fun _ _ _ => rfl) tw_347 rfl (by decide +kernel),
    ⟨_, so_iload_n (i := 2) (k := 2) (by decide +kernel) rfl,
    ⟨_, so_iald rfl (by decide +kernel),
    ⟨_, so_aload_n (i := 0) (k := 0) (by decide +kernel) rfl,
    ⟨_, so_getr (ci := 8) (k := 0) (index := 43) rfl CF_8 (by decide +kernel) (fun _ _ _ => rfl) tw_343 rfl (by decide +kernel),
    ⟨_, so_aload_n (i := 0) (k := 0) (by decide +kernel) rfl,
    ⟨_, so_getr (ci := 8) (k := 3) (index := 18) rfl CF_8 (by decide +kernel) (fun _ _ _ => rfl) tw_346 rfl (by decide +kernel),
    ⟨_, so_iload_n (i := 2) (k := 2) (by decide +kernel) rfl,
    ⟨_, so_iald rfl (by decide +kernel),
    ⟨_, so_aload_n (i := 0) (k := 0) (by decide +kernel) rfl,
    ⟨_, so_getr (ci := 8) (k := 1) (index := 9) rfl CF_8 (by decide +kernel) (fun _ _ _ => rfl) tw_344 rfl (by decide +kernel),
    ⟨_, so_iload_n (i := 2) (k := 2) (by decide +kernel) rfl,
    ⟨_, so_iald rfl (by decide +kernel),
    ⟨_, so_invV (mi' := m_Co_otherEnd) (ci := 1) (n := 2) (index := 117) rfl rfl tw_683 tw_684 ⟨tw_685, tw_67, ⟨by decide +kernel, by decide +kernel, by decide +kernel⟩, by decide +kernel⟩ tw_970 (by decide +kernel),
    ⟨_, so_iload_n (i := 3) (k := 3) (by decide +kernel) rfl,
    ⟨_, so_invV (mi' := m_To_supposedSum) (ci := 8) (n := 3) (index := 123) rfl rfl tw_982 tw_28 ⟨tw_983, tw_74, ⟨by decide +kernel, by decide +kernel, by decide +kernel⟩, by decide +kernel⟩ tw_980 (by decide +kernel),
    ⟨_, so_istore_n (i := 3) (k := 3) (by decide +kernel) rfl (by decide +kernel),
    ⟨_, so_fall (pc' := 0) (t := 2) rfl,
    trivial⟩⟩⟩⟩⟩⟩⟩⟩⟩⟩⟩⟩⟩⟩⟩⟩⟩⟩⟩⟩⟩⟩⟩⟩⟩⟩⟩⟩⟩⟩⟩⟩⟩⟩⟩⟩⟩⟩⟩⟩⟩⟩⟩⟩⟩⟩⟩⟩⟩⟩⟩
  | 2 => ⟨_, so_iload_n (i := 3) (k := 3) (by decide +kernel) rfl,
    ⟨_, so_aload_n (i := 0) (k := 0) (by decide +kernel) rfl,
    ⟨_, so_getr (ci := 8) (k := 5) (index := 24) rfl CF_8 (by decide +kernel) (fun _ _ _ => rfl) tw_348 rfl (by decide +kernel),
    ⟨_, so_iload_n (i := 2) (k := 2) (by decide +kernel) rfl,
    ⟨_, so_iald rfl (by decide +kernel),
    ⟨_, so_iceq (t := 3) (off := 5) (by decide +kernel) rfl,
    ⟨_, so_iconst (n := (0)) (by decide +kernel) ⟨by decide, by decide⟩,
    ⟨_, so_zret (pc' := 0) rfl (by decide +kernel),
    trivial⟩⟩⟩⟩⟩⟩⟩⟩
  | 3 => ⟨_, so_iinc (i := 2) (n := 1) (by decide +kernel) (by decide +kernel),
    ⟨_, so_goto (pc' := 0) (t := 1) (off := -98) (by decide +kernel) rfl,
    trivial⟩⟩
  | 4 => ⟨_, so_iconst (n := (1)) (by decide +kernel) ⟨by decide, by decide⟩,
    ⟨_, so_zret (pc' := 0) rfl (by decide +kernel),
    trivial⟩⟩
  | _ + 5 => trivial
def c_To_supposedSum : List (List Op) := [
  [op_aload 0, op_getr SC 8 0, op_iload 1, op_iload 2, op_invV SC m_Co_figureFrom 1 2, op_istore 4, op_iload 1, op_aload 0, op_geti SC 8 12, op_icne 3, op_aload 0, op_getr SC 8 0, op_iload 1, op_invV SC m_Co_startOf 1 1, op_iload 2, op_icne 1, op_aload 0, op_geti SC 8 13, op_goto 2],
  [op_aload 0, op_geti SC 8 14, op_goto 2],
  [op_istore 4, op_goto 3],
  [op_aload 0, op_getr SC 8 0, op_iload 1, op_iload 4, op_iload 3, op_invV SC m_Co_sumBy 1 3, op_iret]]
def t_To_supposedSum : Nat → Nat := fun t => [0, 38, 42, 44].getD t 0
set_option maxRecDepth 100000 in
theorem ok_To_supposedSum : MOK SC m_To_supposedSum c_To_supposedSum t_To_supposedSum := fun t => match t with
  | 0 => ⟨_, so_aload_n (i := 0) (k := 0) (by decide +kernel) rfl,
    ⟨_, so_getr (ci := 8) (k := 0) (index := 43) rfl CF_8 (by decide +kernel) (fun _ _ _ => rfl) tw_343 rfl (by decide +kernel),
    ⟨_, so_iload_n (i := 1) (k := 1) (by decide +kernel) rfl,
    ⟨_, so_iload_n (i := 2) (k := 2) (by decide +kernel) rfl,
    ⟨_, so_invV (mi' := m_Co_figureFrom) (ci := 1) (n := 2) (index := 91) rfl rfl tw_671 tw_672 ⟨tw_673, tw_67, ⟨by decide +kernel, by decide +kernel, by decide +kernel⟩, by decide +kernel⟩ tw_984 (by decide +kernel),
    ⟨_, so_istore (i := 4) (by decide +kernel) (by decide +kernel),
    ⟨_, so_iload_n (i := 1) (k := 1) (by decide +kernel) rfl,
    ⟨_, so_aload_n (i := 0) (k := 0) (by decide +kernel) rfl,
    ⟨_, so_geti (ci := 8) (k := 12) (index := 101) rfl CF_8 (by decide +kernel) (fun _ _ _ => rfl) tw_355 rfl (by decide +kernel),
    ⟨_, so_icne (t := 3) (off := 28) (by decide +kernel) rfl,
    ⟨_, so_aload_n (i := 0) (k := 0) (by decide +kernel) rfl,
    ⟨_, so_getr (ci := 8) (k := 0) (index := 43) rfl CF_8 (by decide +kernel) (fun _ _ _ => rfl) tw_343 rfl (by decide +kernel),
    ⟨_, so_iload_n (i := 1) (k := 1) (by decide +kernel) rfl,
    ⟨_, so_invV (mi' := m_Co_startOf) (ci := 1) (n := 1) (index := 87) rfl rfl tw_630 tw_631 ⟨tw_632, tw_67, ⟨by decide +kernel, by decide +kernel, by decide +kernel⟩, by decide +kernel⟩ tw_975 (by decide +kernel),
    ⟨_, so_iload_n (i := 2) (k := 2) (by decide +kernel) rfl,
    ⟨_, so_icne (t := 1) (off := 10) (by decide +kernel) rfl,
    ⟨_, so_aload_n (i := 0) (k := 0) (by decide +kernel) rfl,
    ⟨_, so_geti (ci := 8) (k := 13) (index := 111) rfl CF_8 (by decide +kernel) (fun _ _ _ => rfl) tw_356 rfl (by decide +kernel),
    ⟨_, so_goto (pc' := 0) (t := 2) (off := 7) (by decide +kernel) rfl,
    trivial⟩⟩⟩⟩⟩⟩⟩⟩⟩⟩⟩⟩⟩⟩⟩⟩⟩⟩⟩
  | 1 => ⟨_, so_aload_n (i := 0) (k := 0) (by decide +kernel) rfl,
    ⟨_, so_geti (ci := 8) (k := 14) (index := 114) rfl CF_8 (by decide +kernel) (fun _ _ _ => rfl) tw_357 rfl (by decide +kernel),
    ⟨_, so_fall (pc' := 0) (t := 2) rfl,
    trivial⟩⟩⟩
  | 2 => ⟨_, so_istore (i := 4) (by decide +kernel) (by decide +kernel),
    ⟨_, so_fall (pc' := 0) (t := 3) rfl,
    trivial⟩⟩
  | 3 => ⟨_, so_aload_n (i := 0) (k := 0) (by decide +kernel) rfl,
    ⟨_, so_getr (ci := 8) (k := 0) (index := 43) rfl CF_8 (by decide +kernel) (fun _ _ _ => rfl) tw_343 rfl (by decide +kernel),
    ⟨_, so_iload_n (i := 1) (k := 1) (by decide +kernel) rfl,
    ⟨_, so_iload (i := 4) (by decide +kernel),
    ⟨_, so_iload_n (i := 3) (k := 3) (by decide +kernel) rfl,
    ⟨_, so_invV (mi' := m_Co_sumBy) (ci := 1) (n := 3) (index := 97) rfl rfl tw_679 tw_680 ⟨tw_681, tw_67, ⟨by decide +kernel, by decide +kernel, by decide +kernel⟩, by decide +kernel⟩ tw_985 (by decide +kernel),
    ⟨_, so_iret (pc' := 0) rfl (by decide +kernel),
    trivial⟩⟩⟩⟩⟩⟩⟩
  | _ + 4 => trivial
def c_Wa_init : List (List Op) := [
  [op_aload 0, op_oinit, op_aload 0, op_aload 1, op_putr SC 9 0, op_ret]]
def t_Wa_init : Nat → Nat := fun t => [0].getD t 0
set_option maxRecDepth 100000 in
theorem ok_Wa_init : MOK SC m_Wa_init c_Wa_init t_Wa_init := fun t => match t with
  | 0 => ⟨_, so_aload_n (i := 0) (k := 0) (by decide +kernel) rfl,
    ⟨_, so_oinit (index := 1) tw_236 tw_91 tw_92 (by decide +kernel) (by decide +kernel),
    ⟨_, so_aload_n (i := 0) (k := 0) (by decide +kernel) rfl,
    ⟨_, so_aload_n (i := 1) (k := 1) (by decide +kernel) rfl,
    ⟨_, so_putrF (ci := 9) (k := 0) (index := 7) rfl CF_9 (by decide +kernel) (Or.inl ⟨_, rfl⟩) tw_237 rfl rfl rfl rfl (by decide +kernel),
    ⟨_, so_ret (pc' := 0) rfl (by decide +kernel),
    trivial⟩⟩⟩⟩⟩⟩
  | _ + 1 => trivial
def c_Wa_startNow : List (List Op) := [
  [op_aload 0, op_aload 0, op_getr SC 9 0, op_getr SC 1 0, op_geti SC 7 0, op_puti SC 9 1, op_aload 0, op_aload 0, op_getr SC 9 0, op_getr SC 1 0, op_geti SC 7 1, op_puti SC 9 2, op_aload 0, op_ci (0), op_puti SC 9 3, op_aload 0, op_ci (0), op_puti SC 9 4, op_ret]]
def t_Wa_startNow : Nat → Nat := fun t => [0].getD t 0
set_option maxRecDepth 100000 in
theorem ok_Wa_startNow : MOK SC m_Wa_startNow c_Wa_startNow t_Wa_startNow := fun t => match t with
  | 0 => ⟨_, so_aload_n (i := 0) (k := 0) (by decide +kernel) rfl,
    ⟨_, so_aload_n (i := 0) (k := 0) (by decide +kernel) rfl,
    ⟨_, so_getr (ci := 9) (k := 0) (index := 7) rfl CF_9 (by decide +kernel) (fun _ _ _ => rfl) tw_237 rfl (by decide +kernel),
    ⟨_, so_getrN (ci := 1) (k := 0) (index := 13) rfl CF_1 (by decide +kernel) (fun _ _ _ => rfl) tw_168 rfl (by decide +kernel),
    ⟨_, so_getiN (ci := 7) (k := 0) (index := 19) rfl CF_7 (by decide +kernel) (fun _ _ _ => rfl) tw_125 rfl (by decide +kernel),
    ⟨_, so_puti (ci := 9) (k := 1) (index := 25) rfl CF_9 (by decide +kernel) rfl tw_238 rfl rfl (by decide +kernel),
    ⟨_, so_aload_n (i := 0) (k := 0) (by decide +kernel) rfl,
    ⟨_, so_aload_n (i := 0) (k := 0) (by decide +kernel) rfl,
    ⟨_, so_getr (ci := 9) (k := 0) (index := 7) rfl CF_9 (by decide +kernel) (fun _ _ _ => rfl) tw_237 rfl (by decide +kernel),
    ⟨_, so_getrN (ci := 1) (k := 0) (index := 13) rfl CF_1 (by decide +kernel) (fun _ _ _ => rfl) tw_168 rfl (by decide +kernel),
    ⟨_, so_getiN (ci := 7) (k := 1) (index := 26) rfl CF_7 (by decide +kernel) (fun _ _ _ => rfl) tw_133 rfl (by decide +kernel),
    ⟨_, so_puti (ci := 9) (k := 2) (index := 29) rfl CF_9 (by decide +kernel) rfl tw_240 rfl rfl (by decide +kernel),
    ⟨_, so_aload_n (i := 0) (k := 0) (by decide +kernel) rfl,
    ⟨_, so_iconst (n := (0)) (by decide +kernel) ⟨by decide, by decide⟩,
    ⟨_, so_puti (ci := 9) (k := 3) (index := 30) rfl CF_9 (by decide +kernel) rfl tw_242 rfl rfl (by decide +kernel),
    ⟨_, so_aload_n (i := 0) (k := 0) (by decide +kernel) rfl,
    ⟨_, so_iconst (n := (0)) (by decide +kernel) ⟨by decide, by decide⟩,
    ⟨_, so_puti (ci := 9) (k := 4) (index := 33) rfl CF_9 (by decide +kernel) rfl tw_244 rfl rfl (by decide +kernel),
    ⟨_, so_ret (pc' := 0) rfl (by decide +kernel),
    trivial⟩⟩⟩⟩⟩⟩⟩⟩⟩⟩⟩⟩⟩⟩⟩⟩⟩⟩⟩
  | _ + 1 => trivial
def c_Wa_goBy : List (List Op) := [
  [op_aload 0, op_getr SC 9 0, op_iload 1, op_aload 0, op_geti SC 9 1, op_invV SC m_Co_canBeCrossed 1 2, op_ifne 1, op_ci (0), op_zret],
  [op_aload 0, op_dup, op_geti SC 9 3, op_aload 0, op_getr SC 9 0, op_iload 1, op_aload 0, op_geti SC 9 1, op_invV SC m_Co_changeFrom 1 2, op_iadd, op_puti SC 9 3, op_aload 0, op_aload 0, op_getr SC 9 0, op_iload 1, op_aload 0, op_geti SC 9 1, op_aload 0, op_geti SC 9 2, op_invV SC m_Co_sumBehind 1 3, op_puti SC 9 2, op_aload 0, op_aload 0, op_getr SC 9 0, op_iload 1, op_aload 0, op_geti SC 9 1, op_invV SC m_Co_otherEnd 1 2, op_puti SC 9 1, op_aload 0, op_dup, op_geti SC 9 4, op_ci (1), op_iadd, op_puti SC 9 4, op_ci (1), op_zret]]
def t_Wa_goBy : Nat → Nat := fun t => [0, 17].getD t 0
set_option maxRecDepth 100000 in
theorem ok_Wa_goBy : MOK SC m_Wa_goBy c_Wa_goBy t_Wa_goBy := fun t => match t with
  | 0 => ⟨_, so_aload_n (i := 0) (k := 0) (by decide +kernel) rfl,
    ⟨_, so_getr (ci := 9) (k := 0) (index := 7) rfl CF_9 (by decide +kernel) (fun _ _ _ => rfl) tw_237 rfl (by decide +kernel),
    ⟨_, so_iload_n (i := 1) (k := 1) (by decide +kernel) rfl,
    ⟨_, so_aload_n (i := 0) (k := 0) (by decide +kernel) rfl,
    ⟨_, so_geti (ci := 9) (k := 1) (index := 25) rfl CF_9 (by decide +kernel) (fun _ _ _ => rfl) tw_238 rfl (by decide +kernel),
    ⟨_, so_invV (mi' := m_Co_canBeCrossed) (ci := 1) (n := 2) (index := 36) rfl rfl tw_658 tw_659 ⟨tw_660, tw_67, ⟨by decide +kernel, by decide +kernel, by decide +kernel⟩, by decide +kernel⟩ tw_657 (by decide +kernel),
    ⟨_, so_ifne (t := 1) (off := 5) (by decide +kernel) rfl,
    ⟨_, so_iconst (n := (0)) (by decide +kernel) ⟨by decide, by decide⟩,
    ⟨_, so_zret (pc' := 0) rfl (by decide +kernel),
    trivial⟩⟩⟩⟩⟩⟩⟩⟩⟩
  | 1 => ⟨_, so_aload_n (i := 0) (k := 0) (by decide +kernel) rfl,
    ⟨_, so_dup (by decide +kernel),
    ⟨_, so_geti (ci := 9) (k := 3) (index := 30) rfl CF_9 (by decide +kernel) (fun _ _ _ => rfl) tw_242 rfl (by decide +kernel),
    ⟨_, so_aload_n (i := 0) (k := 0) (by decide +kernel) rfl,
    ⟨_, so_getr (ci := 9) (k := 0) (index := 7) rfl CF_9 (by decide +kernel) (fun _ _ _ => rfl) tw_237 rfl (by decide +kernel),
    ⟨_, so_iload_n (i := 1) (k := 1) (by decide +kernel) rfl,
    ⟨_, so_aload_n (i := 0) (k := 0) (by decide +kernel) rfl,
    ⟨_, so_geti (ci := 9) (k := 1) (index := 25) rfl CF_9 (by decide +kernel) (fun _ _ _ => rfl) tw_238 rfl (by decide +kernel),
    ⟨_, so_invV (mi' := m_Co_changeFrom) (ci := 1) (n := 2) (index := 40) rfl rfl tw_667 tw_668 ⟨tw_669, tw_67, ⟨by decide +kernel, by decide +kernel, by decide +kernel⟩, by decide +kernel⟩ tw_666 (by decide +kernel),
    ⟨_, so_iadd (by decide +kernel),
    ⟨_, so_puti (ci := 9) (k := 3) (index := 30) rfl CF_9 (by decide +kernel) rfl tw_242 rfl rfl (by decide +kernel),
    ⟨_, so_aload_n (i := 0) (k := 0) (by decide +kernel) rfl,
    ⟨_, so_aload_n (i := 0) (k := 0) (by decide +kernel) rfl,
    ⟨_, so_getr (ci := 9) (k := 0) (index := 7) rfl CF_9 (by decide +kernel) (fun _ _ _ => rfl) tw_237 rfl (by decide +kernel),
    ⟨_, so_iload_n (i := 1) (k := 1) (by decide +kernel) rfl,
    ⟨_, so_aload_n (i := 0) (k := 0) (by decide +kernel) rfl,
    ⟨_, so_geti (ci := 9) (k := 1) (index := 25) rfl CF_9 (by decide +kernel) (fun _ _ _ => rfl) tw_238 rfl (by decide +kernel),
    ⟨_, so_aload_n (i := 0) (k := 0) (by decide +kernel) rfl,
    ⟨_, so_geti (ci := 9) (k := 2) (index := 29) rfl CF_9 (by decide +kernel) (fun _ _ _ => rfl) tw_240 rfl (by decide +kernel),
    ⟨_, so_invV (mi' := m_Co_sumBehind) (ci := 1) (n := 3) (index := 44) rfl rfl tw_675 tw_676 ⟨tw_677, tw_67, ⟨by decide +kernel, by decide +kernel, by decide +kernel⟩, by decide +kernel⟩ tw_674 (by decide +kernel),
    ⟨_, so_puti (ci := 9) (k := 2) (index := 29) rfl CF_9 (by decide +kernel) rfl tw_240 rfl rfl (by decide +kernel),
    ⟨_, so_aload_n (i := 0) (k := 0) (by decide +kernel) rfl,
    ⟨_, so_aload_n (i := 0) (k := 0) (by decide +kernel) rfl,
    ⟨_, so_getr (ci := 9) (k := 0) (index := 7) rfl CF_9 (by decide +kernel) (fun _ _ _ => rfl) tw_237 rfl (by decide +kernel),
    ⟨_, so_iload_n (i := 1) (k := 1) (by decide +kernel) rfl,
    ⟨_, so_aload_n (i := 0) (k := 0) (by decide +kernel) rfl,
    ⟨_, so_geti (ci := 9) (k := 1) (index := 25) rfl CF_9 (by decide +kernel) (fun _ _ _ => rfl) tw_238 rfl (by decide +kernel),
    ⟨_, so_invV (mi' := m_Co_otherEnd) (ci := 1) (n := 2) (index := 48) rfl rfl tw_683 tw_684 ⟨tw_685, tw_67, ⟨by decide +kernel, by decide +kernel, by decide +kernel⟩, by decide +kernel⟩ tw_682 (by decide +kernel),
    ⟨_, so_puti (ci := 9) (k := 1) (index := 25) rfl CF_9 (by decide +kernel) rfl tw_238 rfl rfl (by decide +kernel),
    ⟨_, so_aload_n (i := 0) (k := 0) (by decide +kernel) rfl,
    ⟨_, so_dup (by decide +kernel),
    ⟨_, so_geti (ci := 9) (k := 4) (index := 33) rfl CF_9 (by decide +kernel) (fun _ _ _ => rfl) tw_244 rfl (by decide +kernel),
    ⟨_, so_iconst (n := (1)) (by decide +kernel) ⟨by decide, by decide⟩,
    ⟨_, so_iadd (by decide +kernel),
    ⟨_, so_puti (ci := 9) (k := 4) (index := 33) rfl CF_9 (by decide +kernel) rfl tw_244 rfl rfl (by decide +kernel),
    ⟨_, so_iconst (n := (1)) (by decide +kernel) ⟨by decide, by decide⟩,
    ⟨_, so_zret (pc' := 0) rfl (by decide +kernel),
    trivial⟩⟩⟩⟩⟩⟩⟩⟩⟩⟩⟩⟩⟩⟩⟩⟩⟩⟩⟩⟩⟩⟩⟩⟩⟩⟩⟩⟩⟩⟩⟩⟩⟩⟩⟩⟩⟩
  | _ + 2 => trivial
def c_Wa_followPlan : List (List Op) := [
  [op_aload 0, op_invV SC m_Wa_startNow 9 0, op_ci (0), op_istore 2, op_goto 1],
  [op_iload 2, op_iload 1, op_icge 3, op_iload 2, op_aload 0, op_getr SC 9 0, op_invV SC m_Co_steps 1 0, op_icge 3, op_aload 0, op_aload 0, op_getr SC 9 0, op_iload 2, op_invV SC m_Co_planned 1 1, op_invV SC m_Wa_goBy 9 1, op_ifne 2, op_ci (0), op_zret],
  [op_iinc 2 (1), op_goto 1],
  [op_ci (1), op_zret]]
def t_Wa_followPlan : Nat → Nat := fun t => [0, 6, 39, 45].getD t 0
set_option maxRecDepth 100000 in
theorem ok_Wa_followPlan : MOK SC m_Wa_followPlan c_Wa_followPlan t_Wa_followPlan := fun t => match t with
  | 0 => ⟨_, so_aload_n (i := 0) (k := 0) (by decide +kernel) rfl,
    ⟨_, so_invV (mi' := m_Wa_startNow) (ci := 9) (n := 0) (index := 51) rfl rfl tw_650 tw_651 ⟨tw_652, tw_70, ⟨by decide +kernel, by decide +kernel, by decide +kernel⟩, by decide +kernel⟩ tw_747 (by decide +kernel),
    ⟨_, so_iconst (n := (0)) (by decide +kernel) ⟨by decide, by decide⟩,
    ⟨_, so_istore_n (i := 2) (k := 2) (by decide +kernel) rfl (by decide +kernel),
    ⟨_, so_fall (pc' := 0) (t := 1) rfl,
    trivial⟩⟩⟩⟩⟩
  | 1 => ⟨_, so_iload_n (i := 2) (k := 2) (by decide +kernel) rfl,
    ⟨_, so_iload_n (i := 1) (k := 1) (by decide +kernel) rfl,
    ⟨_, so_icge (t := 3) (off := 37) (by decide +kernel) rfl,
    ⟨_, so_iload_n (i := 2) (k := 2) (by decide +kernel) rfl,
    ⟨_, so_aload_n (i := 0) (k := 0) (by decide +kernel) rfl,
    ⟨_, so_getr (ci := 9) (k := 0) (index := 7) rfl CF_9 (by decide +kernel) (fun _ _ _ => rfl) tw_237 rfl (by decide +kernel),
    ⟨_, so_invV (mi' := m_Co_steps) (ci := 1) (n := 0) (index := 54) rfl rfl tw_737 tw_738 ⟨tw_739, tw_67, ⟨by decide +kernel, by decide +kernel, by decide +kernel⟩, by decide +kernel⟩ tw_748 (by decide +kernel),
    ⟨_, so_icge (t := 3) (off := 26) (by decide +kernel) rfl,
    ⟨_, so_aload_n (i := 0) (k := 0) (by decide +kernel) rfl,
    ⟨_, so_aload_n (i := 0) (k := 0) (by decide +kernel) rfl,
    ⟨_, so_getr (ci := 9) (k := 0) (index := 7) rfl CF_9 (by decide +kernel) (fun _ _ _ => rfl) tw_237 rfl (by decide +kernel),
    ⟨_, so_iload_n (i := 2) (k := 2) (by decide +kernel) rfl,
    ⟨_, so_invV (mi' := m_Co_planned) (ci := 1) (n := 1) (index := 58) rfl rfl tw_750 tw_751 ⟨tw_752, tw_67, ⟨by decide +kernel, by decide +kernel, by decide +kernel⟩, by decide +kernel⟩ tw_749 (by decide +kernel),
    ⟨_, so_invV (mi' := m_Wa_goBy) (ci := 9) (n := 1) (index := 62) rfl rfl tw_654 tw_655 ⟨tw_656, tw_70, ⟨by decide +kernel, by decide +kernel, by decide +kernel⟩, by decide +kernel⟩ tw_753 (by decide +kernel),
    ⟨_, so_ifne (t := 2) (off := 5) (by decide +kernel) rfl,
    ⟨_, so_iconst (n := (0)) (by decide +kernel) ⟨by decide, by decide⟩,
    ⟨_, so_zret (pc' := 0) rfl (by decide +kernel),
    trivial⟩⟩⟩⟩⟩⟩⟩⟩⟩⟩⟩⟩⟩⟩⟩⟩⟩
  | 2 => ⟨_, so_iinc (i := 2) (n := 1) (by decide +kernel) (by decide +kernel),
    ⟨_, so_goto (pc' := 0) (t := 1) (off := -36) (by decide +kernel) rfl,
    trivial⟩⟩
  | 3 => ⟨_, so_iconst (n := (1)) (by decide +kernel) ⟨by decide, by decide⟩,
    ⟨_, so_zret (pc' := 0) rfl (by decide +kernel),
    trivial⟩⟩
  | _ + 4 => trivial
def c_Wa_followDraws : List (List Op) := [
  [op_aload 0, op_invV SC m_Wa_startNow 9 0, op_aload 0, op_getr SC 9 0, op_invV SC m_Co_roads 1 0, op_istore 3, op_iload 3, op_ifgt 1, op_ret],
  [op_ci (0), op_istore 4, op_goto 2],
  [op_iload 4, op_iload 2, op_icge 3, op_aload 0, op_iload 1, op_iload 4, op_invS SC m_Wa_draw 2, op_iload 3, op_irem, op_invV SC m_Wa_goBy 9 1, op_pop, op_iinc 4 (1), op_goto 2],
  [op_ret]]
def t_Wa_followDraws : Nat → Nat := fun t => [0, 17, 20, 45].getD t 0
set_option maxRecDepth 100000 in
theorem ok_Wa_followDraws : MOK SC m_Wa_followDraws c_Wa_followDraws t_Wa_followDraws := fun t => match t with
  | 0 => ⟨_, so_aload_n (i := 0) (k := 0) (by decide +kernel) rfl,
    ⟨_, so_invV (mi' := m_Wa_startNow) (ci := 9) (n := 0) (index := 51) rfl rfl tw_650 tw_651 ⟨tw_652, tw_70, ⟨by decide +kernel, by decide +kernel, by decide +kernel⟩, by decide +kernel⟩ tw_747 (by decide +kernel),
    ⟨_, so_aload_n (i := 0) (k := 0) (by decide +kernel) rfl,
    ⟨_, so_getr (ci := 9) (k := 0) (index := 7) rfl CF_9 (by decide +kernel) (fun _ _ _ => rfl) tw_237 rfl (by decide +kernel),
    ⟨_, so_invV (mi' := m_Co_roads) (ci := 1) (n := 0) (index := 66) rfl rfl tw_617 tw_618 ⟨tw_619, tw_67, ⟨by decide +kernel, by decide +kernel, by decide +kernel⟩, by decide +kernel⟩ tw_1041 (by decide +kernel),
    ⟨_, so_istore_n (i := 3) (k := 3) (by decide +kernel) rfl (by decide +kernel),
    ⟨_, so_iload_n (i := 3) (k := 3) (by decide +kernel) rfl,
    ⟨_, so_ifgt (t := 1) (off := 4) (by decide +kernel) rfl,
    ⟨_, so_ret (pc' := 0) rfl (by decide +kernel),
    trivial⟩⟩⟩⟩⟩⟩⟩⟩⟩
  | 1 => ⟨_, so_iconst (n := (0)) (by decide +kernel) ⟨by decide, by decide⟩,
    ⟨_, so_istore (i := 4) (by decide +kernel) (by decide +kernel),
    ⟨_, so_fall (pc' := 0) (t := 2) rfl,
    trivial⟩⟩⟩
  | 2 => ⟨_, so_iload (i := 4) (by decide +kernel),
    ⟨_, so_iload_n (i := 2) (k := 2) (by decide +kernel) rfl,
    ⟨_, so_icge (t := 3) (off := 22) (by decide +kernel) rfl,
    ⟨_, so_aload_n (i := 0) (k := 0) (by decide +kernel) rfl,
    ⟨_, so_iload_n (i := 1) (k := 1) (by decide +kernel) rfl,
    ⟨_, so_iload (i := 4) (by decide +kernel),
    ⟨_, so_invS (mi' := m_Wa_draw) (n := 2) (index := 69) tw_1043 ⟨tw_1044, tw_70, ⟨by decide +kernel, by decide +kernel, by decide +kernel⟩, by decide +kernel⟩ tw_1042 (by decide +kernel),
    ⟨_, so_iload_n (i := 3) (k := 3) (by decide +kernel) rfl,
    ⟨_, so_irem (by decide +kernel),
    ⟨_, so_invV (mi' := m_Wa_goBy) (ci := 9) (n := 1) (index := 62) rfl rfl tw_654 tw_655 ⟨tw_656, tw_70, ⟨by decide +kernel, by decide +kernel, by decide +kernel⟩, by decide +kernel⟩ tw_753 (by decide +kernel),
    ⟨_, so_pop (by decide +kernel),
    ⟨_, so_iinc (i := 4) (n := 1) (by decide +kernel) (by decide +kernel),
    ⟨_, so_goto (pc' := 0) (t := 2) (off := -22) (by decide +kernel) rfl,
    trivial⟩⟩⟩⟩⟩⟩⟩⟩⟩⟩⟩⟩⟩
  | 3 => ⟨_, so_ret (pc' := 0) rfl (by decide +kernel),
    trivial⟩
  | _ + 4 => trivial
def c_Wa_draw : List (List Op) := [
  [op_cl (7919), op_iload 0, op_i2l, op_lmul, op_cl (6151), op_iload 1, op_i2l, op_lmul, op_ladd, op_cl 1, op_ladd, op_lstore 2, op_lload 2, op_lload 2, op_lmul, op_cl (65521), op_lrem, op_cl (8), op_ldiv, op_l2i, op_iret]]
def t_Wa_draw : Nat → Nat := fun t => [0].getD t 0
set_option maxRecDepth 100000 in
theorem ok_Wa_draw : MOK SC m_Wa_draw c_Wa_draw t_Wa_draw := fun t => match t with
  | 0 => ⟨_, so_ldc2 (n := (7919)) (index := 72) (by decide +kernel) tw_1045 ⟨by decide, by decide⟩,
    ⟨_, so_iload_n (i := 0) (k := 0) (by decide +kernel) rfl,
    ⟨_, so_i2l (by decide +kernel),
    ⟨_, so_lmul (by decide +kernel),
    ⟨_, so_ldc2 (n := (6151)) (index := 74) (by decide +kernel) tw_1046 ⟨by decide, by decide⟩,
    ⟨_, so_iload_n (i := 1) (k := 1) (by decide +kernel) rfl,
    ⟨_, so_i2l (by decide +kernel),
    ⟨_, so_lmul (by decide +kernel),
    ⟨_, so_ladd (by decide +kernel),
    ⟨_, so_lconst (n := 1) (k := 1) (by decide +kernel) (by decide +kernel) ⟨by decide, by decide⟩,
    ⟨_, so_ladd (by decide +kernel),
    ⟨_, so_lstore_n (i := 2) (k := 2) (by decide +kernel) rfl (by decide +kernel),
    ⟨_, so_lload_n (i := 2) (k := 2) (by decide +kernel) rfl,
    ⟨_, so_lload_n (i := 2) (k := 2) (by decide +kernel) rfl,
    ⟨_, so_lmul (by decide +kernel),
    ⟨_, so_ldc2 (n := (65521)) (index := 76) (by decide +kernel) tw_1047 ⟨by decide, by decide⟩,
    ⟨_, so_lrem (by decide +kernel),
    ⟨_, so_ldc2 (n := (8)) (index := 78) (by decide +kernel) tw_1048 ⟨by decide, by decide⟩,
    ⟨_, so_ldiv (by decide +kernel),
    ⟨_, so_l2i (by decide +kernel),
    ⟨_, so_iret (pc' := 0) rfl (by decide +kernel),
    trivial⟩⟩⟩⟩⟩⟩⟩⟩⟩⟩⟩⟩⟩⟩⟩⟩⟩⟩⟩⟩⟩
  | _ + 1 => trivial
def c_We_init : List (List Op) := [
  [op_aload 0, op_oinit, op_aload 0, op_ci (10), op_newa SC .int, op_putr SC 10 1, op_aload 0, op_aload 1, op_putr SC 10 0, op_ret]]
def t_We_init : Nat → Nat := fun t => [0].getD t 0
set_option maxRecDepth 100000 in
theorem ok_We_init : MOK SC m_We_init c_We_init t_We_init := fun t => match t with
  | 0 => ⟨_, so_aload_n (i := 0) (k := 0) (by decide +kernel) rfl,
    ⟨_, so_oinit (index := 3) tw_403 tw_91 tw_92 (by decide +kernel) (by decide +kernel),
    ⟨_, so_aload_n (i := 0) (k := 0) (by decide +kernel) rfl,
    ⟨_, so_bipush (n := (10)) (by decide +kernel) (by decide +kernel) ⟨by decide, by decide⟩,
    ⟨_, so_newa (atype := .int) (ty := .int) rfl (by decide) tw_166 (by decide +kernel),
    ⟨_, so_putrF (ci := 10) (k := 1) (index := 9) rfl CF_10 (by decide +kernel) (Or.inr ⟨_, rfl⟩) tw_405 rfl rfl rfl rfl (by decide +kernel),
    ⟨_, so_aload_n (i := 0) (k := 0) (by decide +kernel) rfl,
    ⟨_, so_aload_n (i := 1) (k := 1) (by decide +kernel) rfl,
    ⟨_, so_putrF (ci := 10) (k := 0) (index := 15) rfl CF_10 (by decide +kernel) (Or.inl ⟨_, rfl⟩) tw_404 rfl rfl rfl rfl (by decide +kernel),
    ⟨_, so_ret (pc' := 0) rfl (by decide +kernel),
    trivial⟩⟩⟩⟩⟩⟩⟩⟩⟩⟩
  | _ + 1 => trivial
def c_We_findChance : List (List Op) := [
  [op_aload 0, op_getr SC 10 0, op_invV SC m_Co_bitsNotShut 1 0, op_istore 4, op_iload 4, op_invS SC m_Jd_bitCount 1, op_istore 5, op_aload 0, op_iload 1, op_iload 2, op_iload 4, op_invV SC m_We_countSets 10 3, op_aload 0, op_cl 0, op_putl SC 10 2, op_aload 0, op_ci (10), op_iload 5, op_invS SC m_We_power 2, op_putl SC 10 3, op_ci (0), op_istore 6, op_goto 1],
  [op_iload 6, op_iload 5, op_icgt 2, op_iload 6, op_aload 0, op_getr SC 10 1, op_alen SC, op_icge 2, op_aload 0, op_dup, op_getl SC 10 2, op_aload 0, op_getr SC 10 1, op_iload 6, op_iald SC, op_i2l, op_iload 3, op_iload 6, op_invS SC m_We_power 2, op_lmul, op_ci (10), op_iload 3, op_isub, op_iload 5, op_iload 6, op_isub, op_invS SC m_We_power 2, op_lmul, op_ladd, op_putl SC 10 2, op_iinc 6 (1), op_goto 1],
  [op_aload 0, op_invV SC m_We_lowestTerms 10 0, op_ret]]
def t_We_findChance : Nat → Nat := fun t => [0, 43, 103].getD t 0
set_option maxRecDepth 100000 in
theorem ok_We_findChance : MOK SC m_We_findChance c_We_findChance t_We_findChance := fun t => match t with
  | 0 => ⟨_, so_aload_n (i := 0) (k := 0) (by decide +kernel) rfl,
    ⟨_, so_getr (ci := 10) (k := 0) (index := 15) rfl CF_10 (by decide +kernel) (fun _ _ _ => rfl) tw_404 rfl (by decide +kernel),
    ⟨_, so_invV (mi' := m_Co_bitsNotShut) (ci := 1) (n := 0) (index := 19) rfl rfl tw_835 tw_836 ⟨tw_837, tw_67, ⟨by decide +kernel, by decide +kernel, by decide +kernel⟩, by decide +kernel⟩ tw_1012 (by decide +kernel),
    ⟨_, so_istore (i := 4) (by decide +kernel) (by decide +kernel),
    ⟨_, so_iload (i := 4) (by decide +kernel),
    ⟨_, so_invS (mi' := m_Jd_bitCount) (n := 1) (index := 25) tw_715 ⟨tw_716, tw_82, ⟨by decide +kernel, by decide +kernel, by decide +kernel⟩, by decide +kernel⟩ tw_1013 (by decide +kernel),
    ⟨_, so_istore (i := 5) (by decide +kernel) (by decide +kernel),
    ⟨_, so_aload_n (i := 0) (k := 0) (by decide +kernel) rfl,
    ⟨_, so_iload_n (i := 1) (k := 1) (by decide +kernel) rfl,
    ⟨_, so_iload_n (i := 2) (k := 2) (by decide +kernel) rfl,
    ⟨_, so_iload (i := 4) (by decide +kernel),
    ⟨_, so_invV (mi' := m_We_countSets) (ci := 10) (n := 3) (index := 31) rfl rfl tw_1016 tw_30 ⟨tw_1017, tw_75, ⟨by decide +kernel, by decide +kernel, by decide +kernel⟩, by decide +kernel⟩ tw_1014 (by decide +kernel),
    ⟨_, so_aload_n (i := 0) (k := 0) (by decide +kernel) rfl,
    ⟨_, so_lconst (n := 0) (k := 0) (by decide +kernel) (by decide +kernel) ⟨by decide, by decide⟩,
    ⟨_, so_putl (ci := 10) (k := 2) (index := 35) rfl CF_10 (by decide +kernel) rfl tw_406 rfl rfl (by decide +kernel),
    ⟨_, so_aload_n (i := 0) (k := 0) (by decide +kernel) rfl,
    ⟨_, so_bipush (n := (10)) (by decide +kernel) (by decide +kernel) ⟨by decide, by decide⟩,
    ⟨_, so_iload (i := 5) (by decide +kernel),
    ⟨_, so_invS (mi' := m_We_power) (n := 2) (index := 39) tw_1027 ⟨tw_1028, tw_75, ⟨by decide +kernel, by decide +kernel, by decide +kernel⟩, by decide +kernel⟩ tw_1026 (by decide +kernel),
    ⟨_, so_putl (ci := 10) (k := 3) (index := 43) rfl CF_10 (by decide +kernel) rfl tw_408 rfl rfl (by decide +kernel),
    ⟨_, so_iconst (n := (0)) (by decide +kernel) ⟨by decide, by decide⟩,
    ⟨_, so_istore (i := 6) (by decide +kernel) (by decide +kernel),
    ⟨_, so_fall (pc' := 0) (t := 1) rfl,
    trivial⟩⟩⟩⟩⟩⟩⟩⟩⟩⟩⟩⟩⟩⟩⟩⟩⟩⟩⟩⟩⟩⟩⟩
  | 1 => ⟨_, so_iload (i := 6) (by decide +kernel),
    ⟨_, so_iload (i := 5) (by decide +kernel),
    ⟨_, so_icgt (t := 2) (off := 56) (by decide +kernel) rfl,
    ⟨_, so_iload (i := 6) (by decide +kernel),
    ⟨_, so_aload_n (i := 0) (k := 0) (by decide +kernel) rfl,
    ⟨_, so_getr (ci := 10) (k := 1) (index := 9) rfl CF_10 (by decide +kernel) (fun _ _ _ => rfl) tw_405 rfl (by decide +kernel),
    ⟨_, so_alen rfl (by decide +kernel),
    ⟨_, so_icge (t := 2) (off := 46) (by decide +kernel) rfl,
    ⟨_, so_aload_n (i := 0) (k := 0) (by decide +kernel) rfl,
    ⟨_, so_dup (by decide +kernel),
    ⟨_, so_getl (ci := 10) (k := 2) (index := 35) rfl CF_10 (by decide +kernel) (fun _ _ _ => rfl) tw_406 rfl (by decide +kernel),
    ⟨_, so_aload_n (i := 0) (k := 0) (by decide +kernel) rfl,
    ⟨_, so_getr (ci := 10) (k := 1) (index := 9) rfl CF_10 (by decide +kernel) (fun _ _ _ => rfl) tw_405 rfl (by decide +kernel),
    ⟨_, so_iload (i := 6) (by decide +kernel),
    ⟨_, so_iald rfl (by decide +kernel),
    ⟨_, so_i2l (by decide +kernel),
    ⟨_, so_iload_n (i := 3) (k := 3) (by decide +kernel) rfl,
    ⟨_, so_iload (i := 6) (by decide +kernel),
    ⟨_, so_invS (mi' := m_We_power) (n := 2) (index := 39) tw_1027 ⟨tw_1028, tw_75, ⟨by decide +kernel, by decide +kernel, by decide +kernel⟩, by decide +kernel⟩ tw_1026 (by decide +kernel),
    ⟨_, so_lmul (by decide +kernel),
    ⟨_, so_bipush (n := (10)) (by decide +kernel) (by decide +kernel) ⟨by decide, by decide⟩,
    ⟨_, so_iload_n (i := 3) (k := 3) (by decide +kernel) rfl,
    ⟨_, so_isub (by decide +kernel),
    ⟨_, so_iload (i := 5) (by decide +kernel),
    ⟨_, so_iload (i := 6) (by decide +kernel),
    ⟨_, so_isub (by decide +kernel),
    ⟨_, so_invS (mi' := m_We_power) (n := 2) (index := 39) tw_1027 ⟨tw_1028, tw_75, ⟨by decide +kernel, by decide +kernel, by decide +kernel⟩, by decide +kernel⟩ tw_1026 (by decide +kernel),
    ⟨_, so_lmul (by decide +kernel),
    ⟨_, so_ladd (by decide +kernel),
    ⟨_, so_putl (ci := 10) (k := 2) (index := 35) rfl CF_10 (by decide +kernel) rfl tw_406 rfl rfl (by decide +kernel),
    ⟨_, so_iinc (i := 6) (n := 1) (by decide +kernel) (by decide +kernel),
    ⟨_, so_goto (pc' := 0) (t := 1) (off := -57) (by decide +kernel) rfl,
    trivial⟩⟩⟩⟩⟩⟩⟩⟩⟩⟩⟩⟩⟩⟩⟩⟩⟩⟩⟩⟩⟩⟩⟩⟩⟩⟩⟩⟩⟩⟩⟩⟩
  | 2 => ⟨_, so_aload_n (i := 0) (k := 0) (by decide +kernel) rfl,
    ⟨_, so_invV (mi' := m_We_lowestTerms) (ci := 10) (n := 0) (index := 46) rfl rfl tw_1031 tw_32 ⟨tw_1032, tw_75, ⟨by decide +kernel, by decide +kernel, by decide +kernel⟩, by decide +kernel⟩ tw_1029 (by decide +kernel),
    ⟨_, so_ret (pc' := 0) rfl (by decide +kernel),
    trivial⟩⟩⟩
  | _ + 3 => trivial
def c_We_countSets : List (List Op) := [
  [op_aload 0, op_getr SC 10 1, op_ci (0), op_invS SC m_Jd_fill 2, op_ci (0), op_istore 4, op_goto 1],
  [op_iload 4, op_iload 3, op_icgt 3, op_iload 4, op_invS SC m_Jd_bitCount 1, op_istore 5, op_iload 4, op_iload 3, op_ci (-1), op_ixor, op_iand, op_ifne 2, op_iload 5, op_aload 0, op_getr SC 10 1, op_alen SC, op_icge 2, op_aload 0, op_iload 1, op_iload 2, op_iload 4, op_invV SC m_We_leads 10 3, op_ifeq 2, op_aload 0, op_getr SC 10 1, op_iload 5, op_dup2, op_iald SC, op_ci (1), op_iadd, op_iast SC, op_goto 2],
  [op_iinc 4 (1), op_goto 1],
  [op_ret]]
def t_We_countSets : Nat → Nat := fun t => [0, 11, 65, 71].getD t 0
set_option maxRecDepth 100000 in
theorem ok_We_countSets : MOK SC m_We_countSets c_We_countSets t_We_countSets := fun t => match t with
  | 0 => ⟨_, so_aload_n (i := 0) (k := 0) (by decide +kernel) rfl,
    ⟨_, so_getr (ci := 10) (k := 1) (index := 9) rfl CF_10 (by decide +kernel) (fun _ _ _ => rfl) tw_405 rfl (by decide +kernel),
    ⟨_, so_iconst (n := (0)) (by decide +kernel) ⟨by decide, by decide⟩,
    ⟨_, so_invS (mi' := m_Jd_fill) (n := 2) (index := 49) tw_767 ⟨tw_768, tw_83, ⟨by decide +kernel, by decide +kernel, by decide +kernel⟩, by decide +kernel⟩ tw_1018 (by decide +kernel),
    ⟨_, so_iconst (n := (0)) (by decide +kernel) ⟨by decide, by decide⟩,
    ⟨_, so_istore (i := 4) (by decide +kernel) (by decide +kernel),
    ⟨_, so_fall (pc' := 0) (t := 1) rfl,
    trivial⟩⟩⟩⟩⟩⟩⟩
  | 1 => ⟨_, so_iload (i := 4) (by decide +kernel),
    ⟨_, so_iload_n (i := 3) (k := 3) (by decide +kernel) rfl,
    ⟨_, so_icgt (t := 3) (off := 57) (by decide +kernel) rfl,
    ⟨_, so_iload (i := 4) (by decide +kernel),
    ⟨_, so_invS (mi' := m_Jd_bitCount) (n := 1) (index := 25) tw_715 ⟨tw_716, tw_82, ⟨by decide +kernel, by decide +kernel, by decide +kernel⟩, by decide +kernel⟩ tw_1013 (by decide +kernel),
    ⟨_, so_istore (i := 5) (by decide +kernel) (by decide +kernel),
    ⟨_, so_iload (i := 4) (by decide +kernel),
    ⟨_, so_iload_n (i := 3) (k := 3) (by decide +kernel) rfl,
    ⟨_, so_iconst (n := (-1)) (by decide +kernel) ⟨by decide, by decide⟩,
    ⟨_, so_ixor (by decide +kernel),
    ⟨_, so_iand (by decide +kernel),
    ⟨_, so_ifne (t := 2) (off := 35) (by decide +kernel) rfl,
    ⟨_, so_iload (i := 5) (by decide +kernel),
    ⟨_, so_aload_n (i := 0) (k := 0) (by decide +kernel) rfl,
    ⟨_, so_getr (ci := 10) (k := 1) (index := 9) rfl CF_10 (by decide +kernel) (fun _ _ _ => rfl) tw_405 rfl (by decide +kernel),
    ⟨_, so_alen rfl (by decide +kernel),
    ⟨_, so_icge (t := 2) (off := 25) (by decide +kernel) rfl,
    ⟨_, so_aload_n (i := 0) (k := 0) (by decide +kernel) rfl,
    ⟨_, so_iload_n (i := 1) (k := 1) (by decide +kernel) rfl,
    ⟨_, so_iload_n (i := 2) (k := 2) (by decide +kernel) rfl,
    ⟨_, so_iload (i := 4) (by decide +kernel),
    ⟨_, so_invV (mi' := m_We_leads) (ci := 10) (n := 3) (index := 55) rfl rfl tw_1021 tw_31 ⟨tw_1022, tw_75, ⟨by decide +kernel, by decide +kernel, by decide +kernel⟩, by decide +kernel⟩ tw_1019 (by decide +kernel),
    ⟨_, so_ifeq (t := 2) (off := 14) (by decide +kernel) rfl,
    ⟨_, so_aload_n (i := 0) (k := 0) (by decide +kernel) rfl,
    ⟨_, so_getr (ci := 10) (k := 1) (index := 9) rfl CF_10 (by decide +kernel) (fun _ _ _ => rfl) tw_405 rfl (by decide +kernel),
    ⟨_, so_iload (i := 5) (by decide +kernel),
    ⟨_, so_dup2 (by decide +kernel),
    ⟨_, so_iald rfl (by decide +kernel),
    ⟨_, so_iconst (n := (1)) (by decide +kernel) ⟨by decide, by decide⟩,
    ⟨_, so_iadd (by decide +kernel),
    ⟨_, so_iast rfl (by decide +kernel),
    ⟨_, so_fall (pc' := 0) (t := 2) rfl,
    trivial⟩⟩⟩⟩⟩⟩⟩⟩⟩⟩⟩⟩⟩⟩⟩⟩⟩⟩⟩⟩⟩⟩⟩⟩⟩⟩⟩⟩⟩⟩⟩⟩
  | 2 => ⟨_, so_iinc (i := 4) (n := 1) (by decide +kernel) (by decide +kernel),
    ⟨_, so_goto (pc' := 0) (t := 1) (off := -57) (by decide +kernel) rfl,
    trivial⟩⟩
  | 3 => ⟨_, so_ret (pc' := 0) rfl (by decide +kernel),
    trivial⟩
  | _ + 4 => trivial
def c_We_leads : List (List Op) := [
  [op_ci (1), op_iload 1, op_ishl, op_istore 4, op_ci (0), op_istore 5, op_ci (0), op_istore 6, op_goto 1],
  [op_iload 6, op_ci (6), op_icge 5, op_iload 4, op_iload 5, op_iceq 5, op_iload 4, op_istore 5, op_ci (0), op_istore 7, op_goto 2],
  [op_iload 7, op_aload 0, op_getr SC 10 0, op_invV SC m_Co_roads 1 0, op_icge 4, op_ci (1), op_aload 0, op_getr SC 10 0, op_iload 7, op_invV SC m_Co_startOf 1 1, op_ishl, op_ci (1), op_aload 0, op_getr SC 10 0, op_iload 7, op_invV SC m_Co_endOf 1 1, op_ishl, op_ior, op_istore 8, op_iload 3, op_ci (1), op_iload 7, op_ishl, op_iand, op_ifeq 3, op_iload 4, op_iload 8, op_iand, op_ifeq 3, op_iload 4, op_iload 8, op_ior, op_istore 4, op_goto 3],
  [op_iinc 7 (1), op_goto 2],
  [op_iinc 6 (1), op_goto 1],
  [op_iload 4, op_ci (1), op_iload 2, op_ishl, op_iand, op_ifeq 6, op_ci (1), op_goto 7],
  [op_ci (0), op_goto 7],
  [op_zret]]
def t_We_leads : Nat → Nat := fun t => [0, 11, 32, 93, 99, 105, 118, 119].getD t 0
set_option maxRecDepth 100000 in
theorem ok_We_leads : MOK SC m_We_leads c_We_leads t_We_leads := fun t => match t with
  | 0 => ⟨_, so_iconst (n := (1)) (by decide +kernel) ⟨by decide, by decide⟩,
    ⟨_, so_iload_n (i := 1) (k := 1) (by decide +kernel) rfl,
    ⟨_, so_ishl (by decide +kernel),
    ⟨_, so_istore (i := 4) (by decide +kernel) (by decide +kernel),
    ⟨_, so_iconst (n := (0)) (by decide +kernel) ⟨by decide, by decide⟩,
    ⟨_, so_istore (i := 5) (by decide +kernel) (by decide +kernel),
    ⟨_, so_iconst (n := (0)) (by decide +kernel) ⟨by decide, by decide⟩,
    ⟨_, so_istore (i := 6) (by decide +kernel) (by decide +kernel),
    ⟨_, so_fall (pc' := 0) (t := 1) rfl,
    trivial⟩⟩⟩⟩⟩⟩⟩⟩⟩
  | 1 => ⟨_, so_iload (i := 6) (by decide +kernel),
    ⟨_, so_bipush (n := (6)) (by decide +kernel) (by decide +kernel) ⟨by decide, by decide⟩,
    ⟨_, so_icge (t := 5) (off := 90) (by decide +kernel) rfl,
    ⟨_, so_iload (i := 4) (by decide +kernel),
    ⟨_, so_iload (i := 5) (by decide +kernel),
    ⟨_, so_iceq (t := 5) (off := 83) (by decide +kernel) rfl,
    ⟨_, so_iload (i := 4) (by decide +kernel),
    ⟨_, so_istore (i := 5) (by decide +kernel) (by decide +kernel),
    ⟨_, so_iconst (n := (0)) (by decide +kernel) ⟨by decide, by decide⟩,
    ⟨_, so_istore (i := 7) (by decide +kernel) (by decide +kernel),
    ⟨_, so_fall (pc' := 0) (t := 2) rfl,
    trivial⟩⟩⟩⟩⟩⟩⟩⟩⟩⟩⟩
  | 2 => ⟨_, so_iload (i := 7) (by decide +kernel),
    ⟨_, so_aload_n (i := 0) (k := 0) (by decide +kernel) rfl,
    ⟨_, so_getr (ci := 10) (k := 0) (index := 15) rfl CF_10 (by decide +kernel) (fun _ _ _ => rfl) tw_404 rfl (by decide +kernel),
    ⟨_, so_invV (mi' := m_Co_roads) (ci := 1) (n := 0) (index := 59) rfl rfl tw_617 tw_618 ⟨tw_619, tw_67, ⟨by decide +kernel, by decide +kernel, by decide +kernel⟩, by decide +kernel⟩ tw_1023 (by decide +kernel),
    ⟨_, so_icge (t := 4) (off := 58) (by decide +kernel) rfl,
    ⟨_, so_iconst (n := (1)) (by decide +kernel) ⟨by decide, by decide⟩,
    ⟨_, so_aload_n (i := 0) (k := 0) (by decide +kernel) rfl,
    ⟨_, so_getr (ci := 10) (k := 0) (index := 15) rfl CF_10 (by decide +kernel) (fun _ _ _ => rfl) tw_404 rfl (by decide +kernel),
    ⟨_, so_iload (i := 7) (by decide +kernel),
    ⟨_, so_invV (mi' := m_Co_startOf) (ci := 1) (n := 1) (index := 62) rfl rfl tw_630 tw_631 ⟨tw_632, tw_67, ⟨by decide +kernel, by decide +kernel, by decide +kernel⟩, by decide +kernel⟩ tw_1024 (by decide +kernel),
    ⟨_, so_ishl (by decide +kernel),
    ⟨_, so_iconst (n := (1)) (by decide +kernel) ⟨by decide, by decide⟩,
    ⟨_, so_aload_n (i := 0) (k := 0) (by decide +kernel) rfl,
    ⟨_, so_getr (ci := 10) (k := 0) (index := 15) rfl CF_10 (by decide +kernel) (fun _ _ _ => rfl) tw_404 rfl (by decide +kernel),
    ⟨_, so_iload (i := 7) (by decide +kernel),
    ⟨_, so_invV (mi' := m_Co_endOf) (ci := 1) (n := 1) (index := 65) rfl rfl tw_634 tw_635 ⟨tw_636, tw_67, ⟨by decide +kernel, by decide +kernel, by decide +kernel⟩, by decide +kernel⟩ tw_1025 (by decide +kernel),
    ⟨_, so_ishl (by decide +kernel),
    ⟨_, so_ior (by decide +kernel),
    ⟨_, so_istore (i := 8) (by decide +kernel) (by decide +kernel),
    ⟨_, so_iload_n (i := 3) (k := 3) (by decide +kernel) rfl,
    ⟨_, so_iconst (n := (1)) (by decide +kernel) ⟨by decide, by decide⟩,
    ⟨_, so_iload (i := 7) (by decide +kernel),
    ⟨_, so_ishl (by decide +kernel),
    ⟨_, so_iand (by decide +kernel),
    ⟨_, so_ifeq (t := 3) (off := 18) (by decide +kernel) rfl,
    ⟨_, so_iload (i := 4) (by decide +kernel),
    ⟨_, so_iload (i := 8) (by decide +kernel),
    ⟨_, so_iand (by decide +kernel),
    ⟨_, so_ifeq (t := 3) (off := 10) (by decide +kernel) rfl,
    ⟨_, so_iload (i := 4) (by decide +kernel),
    ⟨_, so_iload (i := 8) (by decide +kernel),
    ⟨_, so_ior (by decide +kernel),
    ⟨_, so_istore (i := 4) (by decide +kernel) (by decide +kernel),
    ⟨_, so_fall (pc' := 0) (t := 3) rfl,
    trivial⟩⟩⟩⟩⟩⟩⟩⟩⟩⟩⟩⟩⟩⟩⟩⟩⟩⟩⟩⟩⟩⟩⟩⟩⟩⟩⟩⟩⟩⟩⟩⟩⟩⟩
  | 3 => ⟨_, so_iinc (i := 7) (n := 1) (by decide +kernel) (by decide +kernel),
    ⟨_, so_goto (pc' := 0) (t := 2) (off := -64) (by decide +kernel) rfl,
    trivial⟩⟩
  | 4 => ⟨_, so_iinc (i := 6) (n := 1) (by decide +kernel) (by decide +kernel),
    ⟨_, so_goto (pc' := 0) (t := 1) (off := -91) (by decide +kernel) rfl,
    trivial⟩⟩
  | 5 => ⟨_, so_iload (i := 4) (by decide +kernel),
    ⟨_, so_iconst (n := (1)) (by decide +kernel) ⟨by decide, by decide⟩,
    ⟨_, so_iload_n (i := 2) (k := 2) (by decide +kernel) rfl,
    ⟨_, so_ishl (by decide +kernel),
    ⟨_, so_iand (by decide +kernel),
    ⟨_, so_ifeq (t := 6) (off := 7) (by decide +kernel) rfl,
    ⟨_, so_iconst (n := (1)) (by decide +kernel) ⟨by decide, by decide⟩,
    ⟨_, so_goto (pc' := 0) (t := 7) (off := 4) (by decide +kernel) rfl,
    trivial⟩⟩⟩⟩⟩⟩⟩⟩
  | 6 => ⟨_, so_iconst (n := (0)) (by decide +kernel) ⟨by decide, by decide⟩,
    ⟨_, so_fall (pc' := 0) (t := 7) rfl,
    trivial⟩⟩
  | 7 => ⟨_, so_zret (pc' := 0) rfl (by decide +kernel),
    trivial⟩
  | _ + 8 => trivial
def c_We_power : List (List Op) := [
  [op_cl 1, op_lstore 2, op_ci (0), op_istore 4, op_goto 1],
  [op_iload 4, op_iload 1, op_icge 2, op_lload 2, op_iload 0, op_i2l, op_lmul, op_lstore 2, op_iinc 4 (1), op_goto 1],
  [op_lload 2, op_lret]]
def t_We_power : Nat → Nat := fun t => [0, 5, 22].getD t 0
set_option maxRecDepth 100000 in
theorem ok_We_power : MOK SC m_We_power c_We_power t_We_power := fun t => match t with
  | 0 => ⟨_, so_lconst (n := 1) (k := 1) (by decide +kernel) (by decide +kernel) ⟨by decide, by decide⟩,
    ⟨_, so_lstore_n (i := 2) (k := 2) (by decide +kernel) rfl (by decide +kernel),
    ⟨_, so_iconst (n := (0)) (by decide +kernel) ⟨by decide, by decide⟩,
    ⟨_, so_istore (i := 4) (by decide +kernel) (by decide +kernel),
    ⟨_, so_fall (pc' := 0) (t := 1) rfl,
    trivial⟩⟩⟩⟩⟩
  | 1 => ⟨_, so_iload (i := 4) (by decide +kernel),
    ⟨_, so_iload_n (i := 1) (k := 1) (by decide +kernel) rfl,
    ⟨_, so_icge (t := 2) (off := 14) (by decide +kernel) rfl,
    ⟨_, so_lload_n (i := 2) (k := 2) (by decide +kernel) rfl,
    ⟨_, so_iload_n (i := 0) (k := 0) (by decide +kernel) rfl,
    ⟨_, so_i2l (by decide +kernel),
    ⟨_, so_lmul (by decide +kernel),
    ⟨_, so_lstore_n (i := 2) (k := 2) (by decide +kernel) rfl (by decide +kernel),
    ⟨_, so_iinc (i := 4) (n := 1) (by decide +kernel) (by decide +kernel),
    ⟨_, so_goto (pc' := 0) (t := 1) (off := -14) (by decide +kernel) rfl,
    trivial⟩⟩⟩⟩⟩⟩⟩⟩⟩⟩
  | 2 => ⟨_, so_lload_n (i := 2) (k := 2) (by decide +kernel) rfl,
    ⟨_, so_lret (pc' := 0) rfl (by decide +kernel),
    trivial⟩⟩
  | _ + 3 => trivial
def c_We_lowestTerms : List (List Op) := [
  [op_aload 0, op_getl SC 10 3, op_lstore 1, op_aload 0, op_getl SC 10 2, op_lstore 3, op_ci (0), op_istore 5, op_goto 1],
  [op_iload 5, op_ci (64), op_icge 2, op_lload 3, op_cl 0, op_lcmp, op_ifeq 2, op_lload 1, op_lload 3, op_lrem, op_lstore 6, op_lload 3, op_lstore 1, op_lload 6, op_lstore 3, op_iinc 5 (1), op_goto 1],
  [op_lload 1, op_cl 0, op_lcmp, op_ifeq 3, op_aload 0, op_dup, op_getl SC 10 2, op_lload 1, op_ldiv, op_putl SC 10 2, op_aload 0, op_dup, op_getl SC 10 3, op_lload 1, op_ldiv, op_putl SC 10 3, op_goto 3],
  [op_ret]]
def t_We_lowestTerms : Nat → Nat := fun t => [0, 13, 42, 68].getD t 0
set_option maxRecDepth 100000 in
theorem ok_We_lowestTerms : MOK SC m_We_lowestTerms c_We_lowestTerms t_We_lowestTerms := fun t => match t with
  | 0 => ⟨_, so_aload_n (i := 0) (k := 0) (by decide +kernel) rfl,
    ⟨_, so_getl (ci := 10) (k := 3) (index := 43) rfl CF_10 (by decide +kernel) (fun _ _ _ => rfl) tw_408 rfl (by decide +kernel),
    ⟨_, so_lstore_n (i := 1) (k := 1) (by decide +kernel) rfl (by decide +kernel),
    ⟨_, so_aload_n (i := 0) (k := 0) (by decide +kernel) rfl,
    ⟨_, so_getl (ci := 10) (k := 2) (index := 35) rfl CF_10 (by decide +kernel) (fun _ _ _ => rfl) tw_406 rfl (by decide +kernel),
    ⟨_, so_lstore_n (i := 3) (k := 3) (by decide +kernel) rfl (by decide +kernel),
    ⟨_, so_iconst (n := (0)) (by decide +kernel) ⟨by decide, by decide⟩,
    ⟨_, so_istore (i := 5) (by decide +kernel) (by decide +kernel),
    ⟨_, so_fall (pc' := 0) (t := 1) rfl,
    trivial⟩⟩⟩⟩⟩⟩⟩⟩⟩
  | 1 => ⟨_, so_iload (i := 5) (by decide +kernel),
    ⟨_, so_bipush (n := (64)) (by decide +kernel) (by decide +kernel) ⟨by decide, by decide⟩,
    ⟨_, so_icge (t := 2) (off := 25) (by decide +kernel) rfl,
    ⟨_, so_lload_n (i := 3) (k := 3) (by decide +kernel) rfl,
    ⟨_, so_lconst (n := 0) (k := 0) (by decide +kernel) (by decide +kernel) ⟨by decide, by decide⟩,
    ⟨_, so_lcmp (by decide +kernel),
    ⟨_, so_ifeq (t := 2) (off := 19) (by decide +kernel) rfl,
    ⟨_, so_lload_n (i := 1) (k := 1) (by decide +kernel) rfl,
    ⟨_, so_lload_n (i := 3) (k := 3) (by decide +kernel) rfl,
    ⟨_, so_lrem (by decide +kernel),
    ⟨_, so_lstore (i := 6) (by decide +kernel) (by decide +kernel),
    ⟨_, so_lload_n (i := 3) (k := 3) (by decide +kernel) rfl,
    ⟨_, so_lstore_n (i := 1) (k := 1) (by decide +kernel) rfl (by decide +kernel),
    ⟨_, so_lload (i := 6) (by decide +kernel),
    ⟨_, so_lstore_n (i := 3) (k := 3) (by decide +kernel) rfl (by decide +kernel),
    ⟨_, so_iinc (i := 5) (n := 1) (by decide +kernel) (by decide +kernel),
    ⟨_, so_goto (pc' := 0) (t := 1) (off := -26) (by decide +kernel) rfl,
    trivial⟩⟩⟩⟩⟩⟩⟩⟩⟩⟩⟩⟩⟩⟩⟩⟩⟩
  | 2 => ⟨_, so_lload_n (i := 1) (k := 1) (by decide +kernel) rfl,
    ⟨_, so_lconst (n := 0) (k := 0) (by decide +kernel) (by decide +kernel) ⟨by decide, by decide⟩,
    ⟨_, so_lcmp (by decide +kernel),
    ⟨_, so_ifeq (t := 3) (off := 23) (by decide +kernel) rfl,
    ⟨_, so_aload_n (i := 0) (k := 0) (by decide +kernel) rfl,
    ⟨_, so_dup (by decide +kernel),
    ⟨_, so_getl (ci := 10) (k := 2) (index := 35) rfl CF_10 (by decide +kernel) (fun _ _ _ => rfl) tw_406 rfl (by decide +kernel),
    ⟨_, so_lload_n (i := 1) (k := 1) (by decide +kernel) rfl,
    ⟨_, so_ldiv (by decide +kernel),
    ⟨_, so_putl (ci := 10) (k := 2) (index := 35) rfl CF_10 (by decide +kernel) rfl tw_406 rfl rfl (by decide +kernel),
    ⟨_, so_aload_n (i := 0) (k := 0) (by decide +kernel) rfl,
    ⟨_, so_dup (by decide +kernel),
    ⟨_, so_getl (ci := 10) (k := 3) (index := 43) rfl CF_10 (by decide +kernel) (fun _ _ _ => rfl) tw_408 rfl (by decide +kernel),
    ⟨_, so_lload_n (i := 1) (k := 1) (by decide +kernel) rfl,
    ⟨_, so_ldiv (by decide +kernel),
    ⟨_, so_putl (ci := 10) (k := 3) (index := 43) rfl CF_10 (by decide +kernel) rfl tw_408 rfl rfl (by decide +kernel),
    ⟨_, so_fall (pc' := 0) (t := 3) rfl,
    trivial⟩⟩⟩⟩⟩⟩⟩⟩⟩⟩⟩⟩⟩⟩⟩⟩⟩
  | 3 => ⟨_, so_ret (pc' := 0) rfl (by decide +kernel),
    trivial⟩
  | _ + 4 => trivial
def c_Jd_bitCount : List (List Op) := [
  [op_iload 0, op_iload 0, op_ci (1), op_iushr, op_ci (1431655765), op_iand, op_isub, op_istore 0, op_iload 0, op_ci (858993459), op_iand, op_iload 0, op_ci (2), op_iushr, op_ci (858993459), op_iand, op_iadd, op_istore 0, op_iload 0, op_iload 0, op_ci (4), op_iushr, op_iadd, op_ci (252645135), op_iand, op_istore 0, op_iload 0, op_iload 0, op_ci (8), op_iushr, op_iadd, op_istore 0, op_iload 0, op_iload 0, op_ci (16), op_iushr, op_iadd, op_istore 0, op_iload 0, op_ci (63), op_iand, op_iret]]
def t_Jd_bitCount : Nat → Nat := fun t => [0].getD t 0
set_option maxRecDepth 100000 in
theorem ok_Jd_bitCount : MOK SC m_Jd_bitCount c_Jd_bitCount t_Jd_bitCount := fun t => match t with
  | 0 => ⟨_, so_iload_n (i := 0) (k := 0) (by decide +kernel) rfl,
    ⟨_, so_iload_n (i := 0) (k := 0) (by decide +kernel) rfl,
    ⟨_, so_iconst (n := (1)) (by decide +kernel) ⟨by decide, by decide⟩,
    ⟨_, so_iushr (by decide +kernel),
    ⟨_, so_ldcw (n := (1431655765)) (index := 265) (by decide +kernel) tw_717 ⟨by decide, by decide⟩,
    ⟨_, so_iand (by decide +kernel),
    ⟨_, so_isub (by decide +kernel),
    ⟨_, so_istore_n (i := 0) (k := 0) (by decide +kernel) rfl (by decide +kernel),
    ⟨_, so_iload_n (i := 0) (k := 0) (by decide +kernel) rfl,
    ⟨_, so_ldcw (n := (858993459)) (index := 266) (by decide +kernel) tw_718 ⟨by decide, by decide⟩,
    ⟨_, so_iand (by decide +kernel),
    ⟨_, so_iload_n (i := 0) (k := 0) (by decide +kernel) rfl,
    ⟨_, so_iconst (n := (2)) (by decide +kernel) ⟨by decide, by decide⟩,
    ⟨_, so_iushr (by decide +kernel),
    ⟨_, so_ldcw (n := (858993459)) (index := 266) (by decide +kernel) tw_718 ⟨by decide, by decide⟩,
    ⟨_, so_iand (by decide +kernel),
    ⟨_, so_iadd (by decide +kernel),
    ⟨_, so_istore_n (i := 0) (k := 0) (by decide +kernel) rfl (by decide +kernel),
    ⟨_, so_iload_n (i := 0) (k := 0) (by decide +kernel) rfl,
    ⟨_, so_iload_n (i := 0) (k := 0) (by decide +kernel) rfl,
    ⟨_, so_iconst (n := (4)) (by decide +kernel) ⟨by decide, by decide⟩,
    ⟨_, so_iushr (by decide +kernel),
    ⟨_, so_iadd (by decide +kernel),
    ⟨_, so_ldcw (n := (252645135)) (index := 267) (by decide +kernel) tw_719 ⟨by decide, by decide⟩,
    ⟨_, so_iand (by decide +kernel),
    ⟨_, so_istore_n (i := 0) (k := 0) (by decide +kernel) rfl (by decide +kernel),
    ⟨_, so_iload_n (i := 0) (k := 0) (by decide +kernel) rfl,
    ⟨_, so_iload_n (i := 0) (k := 0) (by decide +kernel) rfl,
    ⟨_, so_bipush (n := (8)) (by decide +kernel) (by decide +kernel) ⟨by decide, by decide⟩,
    ⟨_, so_iushr (by decide +kernel),
    ⟨_, so_iadd (by decide +kernel),
    ⟨_, so_istore_n (i := 0) (k := 0) (by decide +kernel) rfl (by decide +kernel),
    ⟨_, so_iload_n (i := 0) (k := 0) (by decide +kernel) rfl,
    ⟨_, so_iload_n (i := 0) (k := 0) (by decide +kernel) rfl,
    ⟨_, so_bipush (n := (16)) (by decide +kernel) (by decide +kernel) ⟨by decide, by decide⟩,
    ⟨_, so_iushr (by decide +kernel),
    ⟨_, so_iadd (by decide +kernel),
    ⟨_, so_istore_n (i := 0) (k := 0) (by decide +kernel) rfl (by decide +kernel),
    ⟨_, so_iload_n (i := 0) (k := 0) (by decide +kernel) rfl,
    ⟨_, so_bipush (n := (63)) (by decide +kernel) (by decide +kernel) ⟨by decide, by decide⟩,
    ⟨_, so_iand (by decide +kernel),
    ⟨_, so_iret (pc' := 0) rfl (by decide +kernel),
    trivial⟩⟩⟩⟩⟩⟩⟩⟩⟩⟩⟩⟩⟩⟩⟩⟩⟩⟩⟩⟩⟩⟩⟩⟩⟩⟩⟩⟩⟩⟩⟩⟩⟩⟩⟩⟩⟩⟩⟩⟩⟩⟩
  | _ + 1 => trivial
def c_Jd_fill : List (List Op) := [
  [op_ci (0), op_istore 2, op_aload 0, op_alen SC, op_istore 3, op_goto 1],
  [op_iload 2, op_iload 3, op_icge 2, op_aload 0, op_iload 2, op_iload 1, op_iast SC, op_iinc 2 (1), op_goto 1],
  [op_ret]]
def t_Jd_fill : Nat → Nat := fun t => [0, 5, 20].getD t 0
set_option maxRecDepth 100000 in
theorem ok_Jd_fill : MOK SC m_Jd_fill c_Jd_fill t_Jd_fill := fun t => match t with
  | 0 => ⟨_, so_iconst (n := (0)) (by decide +kernel) ⟨by decide, by decide⟩,
    ⟨_, so_istore_n (i := 2) (k := 2) (by decide +kernel) rfl (by decide +kernel),
    ⟨_, so_aload_n (i := 0) (k := 0) (by decide +kernel) rfl,
    ⟨_, so_alen rfl (by decide +kernel),
    ⟨_, so_istore_n (i := 3) (k := 3) (by decide +kernel) rfl (by decide +kernel),
    ⟨_, so_fall (pc' := 0) (t := 1) rfl,
    trivial⟩⟩⟩⟩⟩⟩
  | 1 => ⟨_, so_iload_n (i := 2) (k := 2) (by decide +kernel) rfl,
    ⟨_, so_iload_n (i := 3) (k := 3) (by decide +kernel) rfl,
    ⟨_, so_icge (t := 2) (off := 13) (by decide +kernel) rfl,
    ⟨_, so_aload_n (i := 0) (k := 0) (by decide +kernel) rfl,
    ⟨_, so_iload_n (i := 2) (k := 2) (by decide +kernel) rfl,
    ⟨_, so_iload_n (i := 1) (k := 1) (by decide +kernel) rfl,
    ⟨_, so_iast rfl (by decide +kernel),
    ⟨_, so_iinc (i := 2) (n := 1) (by decide +kernel) (by decide +kernel),
    ⟨_, so_goto (pc' := 0) (t := 1) (off := -12) (by decide +kernel) rfl,
    trivial⟩⟩⟩⟩⟩⟩⟩⟩⟩
  | 2 => ⟨_, so_ret (pc' := 0) rfl (by decide +kernel),
    trivial⟩
  | _ + 3 => trivial
