abbrev rmX6_isDoor : Room := { frames := 1, cells := 0, slots := 0, locals := 25 }
set_option maxHeartbeats 4000000 in
set_option maxRecDepth 100000 in
theorem kX6_isDoor (l : Launch) (g : GG) (n : Nat) (v : SV) (x : Int32) : Met l yX6_isDoor wsX6_isDoor rmX6_isDoor (PW g n v [.int x]) (QB g n (∃ j : Nat, j < 16 ∧ x = nI j) v) 0 0 (wA g n) := by
  refine Met.begin RX6 rfl (by decide) rfl (Nat.le_of_ble_eq_true rfl) ?_
  intro p e s m args below meth c ls ha C hP hS hl
  have hn : 64 ≤ n := C.2.1.1.2.1
  have hl : lv_has ls 1 [(0, .int x)] := hl
  refine lv_iload_n C.1.1 C.1.2.1 dX6_isDoor_0 rfl (lv_at hl 0 rfl) ?_
  refine lv_i2l (v := x.toInt64) C.1.1 C.1.2.1 dX6_isDoor_1 rfl ?_
  refine lv_lconst (v := 0) C.1.1 C.1.2.1 dX6_isDoor_2 rfl ?_
  refine lv_ldc2 (v := 15) C.1.1 C.1.2.1 C.1.2.2.2.1 (C.1.2.2.2.2 _ (List.mem_of_getElem? (i := 1) rfl)) dX6_isDoor_3 ?_
  refine a_B hS (run_S C hP hS hl.1 [.long x.toInt64, .long 0, .long 15] (kX6_in l g n v x.toInt64 0 15) gX6_isDoor_X6_in hdX6_in rfl ⟨rfl, rfl⟩ ⟨Nat.le_of_ble_eq_true rfl, Nat.le_of_ble_eq_true rfl⟩ rfl [] rfl (Nat.le_of_ble_eq_true rfl) dX6_isDoor_6 ⟨Nat.zero_le _, Nat.zero_le _⟩) (fun b_1 H locs hP hS => ?_) (fun b_1 H locs hP hS => ?_)
  · skip
    have b_1 := (in_iff 16 (by decide) (by decide)).mp b_1
    obtain ⟨jx, hjx, rfl⟩ := b_1
    exact t_1 C rfl hP hS (⟨jx, hjx, rfl⟩) rfl dX6_isDoor_9
  · skip
    have b_1 := fun h => b_1 ((in_iff 16 (by decide) (by decide)).mpr h)
    exact t_0 C rfl hP hS b_1 rfl dX6_isDoor_9

abbrev rmX6_isGood : Room := { frames := 1, cells := 0, slots := 0, locals := 25 }
set_option maxHeartbeats 4000000 in
set_option maxRecDepth 100000 in
theorem kX6_isGood (l : Launch) (g : GG) (n : Nat) (v : SV) (x : Int32) : Met l yX6_isGood wsX6_isGood rmX6_isGood (PW g n v [.int x]) (QB g n (∃ j : Nat, j < 12 ∧ x = nI j) v) 0 0 (wA g n) := by
  refine Met.begin RX6 rfl (by decide) rfl (Nat.le_of_ble_eq_true rfl) ?_
  intro p e s m args below meth c ls ha C hP hS hl
  have hn : 64 ≤ n := C.2.1.1.2.1
  have hl : lv_has ls 1 [(0, .int x)] := hl
  refine lv_iload_n C.1.1 C.1.2.1 dX6_isGood_0 rfl (lv_at hl 0 rfl) ?_
  refine lv_i2l (v := x.toInt64) C.1.1 C.1.2.1 dX6_isGood_1 rfl ?_
  refine lv_lconst (v := 0) C.1.1 C.1.2.1 dX6_isGood_2 rfl ?_
  refine lv_ldc2 (v := 11) C.1.1 C.1.2.1 C.1.2.2.2.1 (C.1.2.2.2.2 _ (List.mem_of_getElem? (i := 1) rfl)) dX6_isGood_3 ?_
  refine a_B hS (run_S C hP hS hl.1 [.long x.toInt64, .long 0, .long 11] (kX6_in l g n v x.toInt64 0 11) gX6_isGood_X6_in hdX6_in rfl ⟨rfl, rfl⟩ ⟨Nat.le_of_ble_eq_true rfl, Nat.le_of_ble_eq_true rfl⟩ rfl [] rfl (Nat.le_of_ble_eq_true rfl) dX6_isGood_6 ⟨Nat.zero_le _, Nat.zero_le _⟩) (fun b_1 H locs hP hS => ?_) (fun b_1 H locs hP hS => ?_)
  · skip
    have b_1 := (in_iff 12 (by decide) (by decide)).mp b_1
    obtain ⟨jx, hjx, rfl⟩ := b_1
    exact t_1 C rfl hP hS (⟨jx, hjx, rfl⟩) rfl dX6_isGood_9
  · skip
    have b_1 := fun h => b_1 ((in_iff 12 (by decide) (by decide)).mpr h)
    exact t_0 C rfl hP hS b_1 rfl dX6_isGood_9

abbrev rmX6_areGoods : Room := { frames := 1, cells := 0, slots := 0, locals := 25 }
set_option maxHeartbeats 4000000 in
set_option maxRecDepth 100000 in
theorem kX6_areGoods (l : Launch) (g : GG) (n : Nat) (v : SV) (x : Int32) : Met l yX6_areGoods wsX6_areGoods rmX6_areGoods (PW g n v [.int x]) (QB g n (∃ j : Nat, j < 4096 ∧ x = nI j) v) 0 0 (wA g n) := by
  refine Met.begin RX6 rfl (by decide) rfl (Nat.le_of_ble_eq_true rfl) ?_
  intro p e s m args below meth c ls ha C hP hS hl
  have hn : 64 ≤ n := C.2.1.1.2.1
  have hl : lv_has ls 1 [(0, .int x)] := hl
  refine lv_iload_n C.1.1 C.1.2.1 dX6_areGoods_0 rfl (lv_at hl 0 rfl) ?_
  refine lv_i2l (v := x.toInt64) C.1.1 C.1.2.1 dX6_areGoods_1 rfl ?_
  refine lv_lconst (v := 0) C.1.1 C.1.2.1 dX6_areGoods_2 rfl ?_
  refine lv_ldc2 (v := 4095) C.1.1 C.1.2.1 C.1.2.2.2.1 (C.1.2.2.2.2 _ (List.mem_of_getElem? (i := 1) rfl)) dX6_areGoods_3 ?_
  refine a_B hS (run_S C hP hS hl.1 [.long x.toInt64, .long 0, .long 4095] (kX6_in l g n v x.toInt64 0 4095) gX6_areGoods_X6_in hdX6_in rfl ⟨rfl, rfl⟩ ⟨Nat.le_of_ble_eq_true rfl, Nat.le_of_ble_eq_true rfl⟩ rfl [] rfl (Nat.le_of_ble_eq_true rfl) dX6_areGoods_6 ⟨Nat.zero_le _, Nat.zero_le _⟩) (fun b_1 H locs hP hS => ?_) (fun b_1 H locs hP hS => ?_)
  · skip
    have b_1 := (in_iff 4096 (by decide) (by decide)).mp b_1
    obtain ⟨jx, hjx, rfl⟩ := b_1
    exact t_1 C rfl hP hS (⟨jx, hjx, rfl⟩) rfl dX6_areGoods_9
  · skip
    have b_1 := fun h => b_1 ((in_iff 4096 (by decide) (by decide)).mpr h)
    exact t_0 C rfl hP hS b_1 rfl dX6_areGoods_9

abbrev rmX6_isShort : Room := { frames := 1, cells := 0, slots := 0, locals := 25 }
set_option maxHeartbeats 4000000 in
set_option maxRecDepth 100000 in
theorem kX6_isShort (l : Launch) (g : GG) (n : Nat) (v : SV) (x : Int32) : Met l yX6_isShort wsX6_isShort rmX6_isShort (PW g n v [.int x]) (QB g n (∃ j : Nat, j < 61 ∧ x = nI j) v) 0 0 (wA g n) := by
  refine Met.begin RX6 rfl (by decide) rfl (Nat.le_of_ble_eq_true rfl) ?_
  intro p e s m args below meth c ls ha C hP hS hl
  have hn : 64 ≤ n := C.2.1.1.2.1
  have hl : lv_has ls 1 [(0, .int x)] := hl
  refine lv_iload_n C.1.1 C.1.2.1 dX6_isShort_0 rfl (lv_at hl 0 rfl) ?_
  refine lv_i2l (v := x.toInt64) C.1.1 C.1.2.1 dX6_isShort_1 rfl ?_
  refine lv_lconst (v := 0) C.1.1 C.1.2.1 dX6_isShort_2 rfl ?_
  refine lv_ldc2 (v := 60) C.1.1 C.1.2.1 C.1.2.2.2.1 (C.1.2.2.2.2 _ (List.mem_of_getElem? (i := 1) rfl)) dX6_isShort_3 ?_
  refine a_B hS (run_S C hP hS hl.1 [.long x.toInt64, .long 0, .long 60] (kX6_in l g n v x.toInt64 0 60) gX6_isShort_X6_in hdX6_in rfl ⟨rfl, rfl⟩ ⟨Nat.le_of_ble_eq_true rfl, Nat.le_of_ble_eq_true rfl⟩ rfl [] rfl (Nat.le_of_ble_eq_true rfl) dX6_isShort_6 ⟨Nat.zero_le _, Nat.zero_le _⟩) (fun b_1 H locs hP hS => ?_) (fun b_1 H locs hP hS => ?_)
  · skip
    have b_1 := (in_iff 61 (by decide) (by decide)).mp b_1
    obtain ⟨jx, hjx, rfl⟩ := b_1
    exact t_1 C rfl hP hS (⟨jx, hjx, rfl⟩) rfl dX6_isShort_9
  · skip
    have b_1 := fun h => b_1 ((in_iff 61 (by decide) (by decide)).mpr h)
    exact t_0 C rfl hP hS b_1 rfl dX6_isShort_9

abbrev rmX6_isSheet : Room := { frames := 1, cells := 0, slots := 0, locals := 25 }
set_option maxHeartbeats 4000000 in
set_option maxRecDepth 100000 in
theorem kX6_isSheet (l : Launch) (g : GG) (n : Nat) (v : SV) (x : Int32) : Met l yX6_isSheet wsX6_isSheet rmX6_isSheet (PW g n v [.int x]) (QB g n (∃ j : Nat, j < 4 ∧ x = nI j) v) 0 0 (wA g n) := by
  refine Met.begin RX6 rfl (by decide) rfl (Nat.le_of_ble_eq_true rfl) ?_
  intro p e s m args below meth c ls ha C hP hS hl
  have hn : 64 ≤ n := C.2.1.1.2.1
  have hl : lv_has ls 1 [(0, .int x)] := hl
  refine lv_iload_n C.1.1 C.1.2.1 dX6_isSheet_0 rfl (lv_at hl 0 rfl) ?_
  refine lv_i2l (v := x.toInt64) C.1.1 C.1.2.1 dX6_isSheet_1 rfl ?_
  refine lv_lconst (v := 0) C.1.1 C.1.2.1 dX6_isSheet_2 rfl ?_
  refine lv_ldc2 (v := 3) C.1.1 C.1.2.1 C.1.2.2.2.1 (C.1.2.2.2.2 _ (List.mem_of_getElem? (i := 1) rfl)) dX6_isSheet_3 ?_
  refine a_B hS (run_S C hP hS hl.1 [.long x.toInt64, .long 0, .long 3] (kX6_in l g n v x.toInt64 0 3) gX6_isSheet_X6_in hdX6_in rfl ⟨rfl, rfl⟩ ⟨Nat.le_of_ble_eq_true rfl, Nat.le_of_ble_eq_true rfl⟩ rfl [] rfl (Nat.le_of_ble_eq_true rfl) dX6_isSheet_6 ⟨Nat.zero_le _, Nat.zero_le _⟩) (fun b_1 H locs hP hS => ?_) (fun b_1 H locs hP hS => ?_)
  · skip
    have b_1 := (in_iff 4 (by decide) (by decide)).mp b_1
    obtain ⟨jx, hjx, rfl⟩ := b_1
    exact t_1 C rfl hP hS (⟨jx, hjx, rfl⟩) rfl dX6_isSheet_9
  · skip
    have b_1 := fun h => b_1 ((in_iff 4 (by decide) (by decide)).mpr h)
    exact t_0 C rfl hP hS b_1 rfl dX6_isSheet_9

abbrev rmX6_isResident : Room := { frames := 1, cells := 0, slots := 0, locals := 25 }
set_option maxHeartbeats 4000000 in
set_option maxRecDepth 100000 in
theorem kX6_isResident (l : Launch) (g : GG) (n : Nat) (v : SV) (x : Int32) (N : Nat) (hM : okM (v.1 54) N) : Met l yX6_isResident wsX6_isResident rmX6_isResident (PW g n v [.ref (gA g 53), .int x]) (QB g n (∃ j : Nat, j < N ∧ x = nI j) v) 0 0 (wA g n) := by
  refine Met.begin RX6 rfl (by decide) rfl (Nat.le_of_ble_eq_true rfl) ?_
  intro p e s m args below meth c ls ha C hP hS hl
  have hn : 64 ≤ n := C.2.1.1.2.1
  have hi6 : ∀ w ∈ u_ws RX6 TX6 17, w ∈ wsX6_isResident := by decide +kernel
  have hl : lv_has ls 2 [(0, .ref (gA g 53)), (1, .int x)] := hl
  have h8 := hM.1
  refine lv_iload_n C.1.1 C.1.2.1 dX6_isResident_0 rfl (lv_at hl 1 rfl) ?_
  refine lv_i2l (v := x.toInt64) C.1.1 C.1.2.1 dX6_isResident_1 rfl ?_
  refine lv_lconst (v := 0) C.1.1 C.1.2.1 dX6_isResident_2 rfl ?_
  refine lv_aload_n C.1.1 C.1.2.1 dX6_isResident_3 rfl (lv_at hl 0 rfl) ?_
  refine r_get C hP 53 6 (Nat.lt_of_lt_of_le (by decide) hn) rfl (by decide) rfl hi6 0 (by decide) (List.mem_of_getElem? (i := 1) rfl) rfl (val := .ref (gA g 54)) rfl dX6_isResident_4 ?_
  refine lv_iconst (v := 0) C.1.1 C.1.2.1 dX6_isResident_7 rfl ?_
  refine r_iald C hP 54 (Nat.lt_of_lt_of_le (by decide) hn) rfl 0 rfl (N := 83) rfl (by decide) (by omega) dX6_isResident_8 ?_
  refine lv_topE (nI N) hM.2.1 ?_
  refine lv_iconst (v := 1) C.1.1 C.1.2.1 dX6_isResident_9 rfl ?_
  refine lv_isub C.1.1 C.1.2.1 dX6_isResident_10 ?_
  refine lv_i2l (v := ((nI N) - 1).toInt64) C.1.1 C.1.2.1 dX6_isResident_11 rfl ?_
  refine a_B hS (run_S C hP hS hl.1 [.long x.toInt64, .long 0, .long (((nI N) - 1).toInt64)] (kX6_in l g n v x.toInt64 0 (((nI N) - 1).toInt64)) gX6_isResident_X6_in hdX6_in rfl ⟨rfl, rfl⟩ ⟨Nat.le_of_ble_eq_true rfl, Nat.le_of_ble_eq_true rfl⟩ rfl [] rfl (Nat.le_of_ble_eq_true rfl) dX6_isResident_12 ⟨Nat.zero_le _, Nat.zero_le _⟩) (fun b_1 H locs hP hS => ?_) (fun b_1 H locs hP hS => ?_)
  · skip
    exact t_1 C rfl hP hS ((in_iff N (by omega) (nat_pred N h8)).mp b_1) rfl dX6_isResident_15
  · skip
    exact t_0 C rfl hP hS (fun h => b_1 ((in_iff N (by omega) (nat_pred N h8)).mpr h)) rfl dX6_isResident_15

abbrev rmX6_isTempted : Room := { frames := 1, cells := 0, slots := 0, locals := 22 }
set_option maxHeartbeats 4000000 in
set_option maxRecDepth 100000 in
theorem kX6_isTempted (l : Launch) (g : GG) (n : Nat) (v : SV) (r : Nat) (x : Int32) (hr : r < 8) : Met l yX6_isTempted wsX6_isTempted rmX6_isTempted (PW g n v [.ref (gA g 53), .int (nI r), .int x]) (QB g n (temptF (rowM (v.1 54) r) x) v) 0 0 (wA g n) := by
  refine Met.begin RX6 rfl (by decide) rfl (Nat.le_of_ble_eq_true rfl) ?_
  intro p e s m args below meth c ls ha C hP hS hl
  have hn : 64 ≤ n := C.2.1.1.2.1
  have hi6 : ∀ w ∈ u_ws RX6 TX6 17, w ∈ wsX6_isTempted := by decide +kernel
  have hl : lv_has ls 3 [(0, .ref (gA g 53)), (1, .int (nI r)), (2, .int x)] := hl
  refine lv_aload_n C.1.1 C.1.2.1 dX6_isTempted_0 rfl (lv_at hl 0 rfl) ?_
  refine lv_iload_n C.1.1 C.1.2.1 dX6_isTempted_1 rfl (lv_at hl 1 rfl) ?_
  refine lv_iconst (v := 0) C.1.1 C.1.2.1 dX6_isTempted_2 rfl ?_
  refine a_F hS (run_V C hP hS hl.1 53 6 (Nat.lt_of_lt_of_le (by decide) hn) rfl (by decide) rfl [.int (nI r), .int 0] (kX6_its l g n v r 0 (by omega) (by omega)) gX6_isTempted_X6_its rfl hdX6_its rfl ⟨rfl, rfl⟩ ⟨Nat.le_of_ble_eq_true rfl, Nat.le_of_ble_eq_true rfl⟩ rfl [] rfl (Nat.le_of_ble_eq_true rfl) dX6_isTempted_3 ⟨Nat.zero_le _, Nat.zero_le _⟩) (fun H locs hP hS => ?_)
  by_cases c_1 : rowM (v.1 54) r 0 = 2
  · refine lv_topE 2 c_1 ?_
    refine lv_tableIn (off := 51) (tgt := 57) C.1.1 C.1.2.1 dX6_isTempted_6 (by decide) (by decide) rfl (by decide) ?_
    refine lv_iload_n C.1.1 C.1.2.1 dX6_isTempted_57 rfl (lv_at hl 2 rfl) ?_
    refine lv_iconst (v := 2) C.1.1 C.1.2.1 dX6_isTempted_58 rfl ?_
    refine lv_irem C.1.1 C.1.2.1 dX6_isTempted_59 (by decide) ?_
    refine lv_if_ne (tgt := 67) C.1.1 C.1.2.1 dX6_isTempted_60 (by decide) (fun c_2 => ?_) (fun c_2 => ?_)
    · skip
      refine lv_iconst (v := 0) C.1.1 C.1.2.1 dX6_isTempted_67 rfl ?_
      exact t_0 C rfl hP hS (by first | (simp [temptF, c_1, c_2]; done) | (simp [temptF, c_1, c_2]; exact fa_nlt (by assumption))) rfl dX6_isTempted_68
    · skip
      refine lv_iconst (v := 1) C.1.1 C.1.2.1 dX6_isTempted_63 rfl ?_
      refine lv_goto (tgt := 68) C.1.1 C.1.2.1 dX6_isTempted_64 (by decide) ?_
      exact t_1 C rfl hP hS (by first | (simp [temptF, c_1, c_2]; done) | (simp [temptF, c_1, c_2]; exact fa_nlt (by assumption))) rfl dX6_isTempted_68
  by_cases c_3 : rowM (v.1 54) r 0 = 3
  · refine lv_topE 3 c_3 ?_
    refine lv_tableIn (off := 34) (tgt := 40) C.1.1 C.1.2.1 dX6_isTempted_6 (by decide) (by decide) rfl (by decide) ?_
    refine lv_iconst (v := 0) C.1.1 C.1.2.1 dX6_isTempted_40 rfl ?_
    exact t_0 C rfl hP hS (by first | (simp [temptF, c_3]; done) | (simp [temptF, c_3]; exact fa_nlt (by assumption))) rfl dX6_isTempted_41
  by_cases c_4 : rowM (v.1 54) r 0 = 4
  · refine lv_topE 4 c_4 ?_
    refine lv_tableIn (off := 36) (tgt := 42) C.1.1 C.1.2.1 dX6_isTempted_6 (by decide) (by decide) rfl (by decide) ?_
    refine lv_aload_n C.1.1 C.1.2.1 dX6_isTempted_42 rfl (lv_at hl 0 rfl) ?_
    refine lv_iload_n C.1.1 C.1.2.1 dX6_isTempted_43 rfl (lv_at hl 1 rfl) ?_
    refine lv_iconst (v := 2) C.1.1 C.1.2.1 dX6_isTempted_44 rfl ?_
    refine a_F hS (run_V C hP hS hl.1 53 6 (Nat.lt_of_lt_of_le (by decide) hn) rfl (by decide) rfl [.int (nI r), .int 2] (kX6_its l g n v r 2 (by omega) (by omega)) gX6_isTempted_X6_its rfl hdX6_its rfl ⟨rfl, rfl⟩ ⟨Nat.le_of_ble_eq_true rfl, Nat.le_of_ble_eq_true rfl⟩ rfl [] rfl (Nat.le_of_ble_eq_true rfl) dX6_isTempted_45 ⟨Nat.zero_le _, Nat.zero_le _⟩) (fun H locs hP hS => ?_)
    refine lv_if_ne (tgt := 55) C.1.1 C.1.2.1 dX6_isTempted_48 (by decide) (fun c_5 => ?_) (fun c_5 => ?_)
    · skip
      refine lv_iconst (v := 0) C.1.1 C.1.2.1 dX6_isTempted_55 rfl ?_
      exact t_0 C rfl hP hS (by first | (simp [temptF, c_4, c_5]; done) | (simp [temptF, c_4, c_5]; exact fa_nlt (by assumption))) rfl dX6_isTempted_56
    · skip
      refine lv_iconst (v := 1) C.1.1 C.1.2.1 dX6_isTempted_51 rfl ?_
      refine lv_goto (tgt := 56) C.1.1 C.1.2.1 dX6_isTempted_52 (by decide) ?_
      exact t_1 C rfl hP hS (by first | (simp [temptF, c_4, c_5]; done) | (simp [temptF, c_4, c_5]; exact fa_nlt (by assumption))) rfl dX6_isTempted_56
  by_cases c_6 : rowM (v.1 54) r 0 = 5
  · refine lv_topE 5 c_6 ?_
    refine lv_tableIn (off := 34) (tgt := 40) C.1.1 C.1.2.1 dX6_isTempted_6 (by decide) (by decide) rfl (by decide) ?_
    refine lv_iconst (v := 0) C.1.1 C.1.2.1 dX6_isTempted_40 rfl ?_
    exact t_0 C rfl hP hS (by first | (simp [temptF, c_6]; done) | (simp [temptF, c_6]; exact fa_nlt (by assumption))) rfl dX6_isTempted_41
  by_cases c_7 : rowM (v.1 54) r 0 = 6
  · refine lv_topE 6 c_7 ?_
    refine lv_tableIn (off := 63) (tgt := 69) C.1.1 C.1.2.1 dX6_isTempted_6 (by decide) (by decide) rfl (by decide) ?_
    refine lv_iload_n C.1.1 C.1.2.1 dX6_isTempted_69 rfl (lv_at hl 2 rfl) ?_
    refine lv_iconst (v := 2) C.1.1 C.1.2.1 dX6_isTempted_70 rfl ?_
    refine lv_irem C.1.1 C.1.2.1 dX6_isTempted_71 (by decide) ?_
    refine lv_if_eq (tgt := 81) C.1.1 C.1.2.1 dX6_isTempted_72 (by decide) (fun c_8 => ?_) (fun c_8 => ?_)
    · skip
      refine lv_iconst (v := 1) C.1.1 C.1.2.1 dX6_isTempted_81 rfl ?_
      refine lv_goto (tgt := 86) C.1.1 C.1.2.1 dX6_isTempted_82 (by decide) ?_
      exact t_1 C rfl hP hS (by first | (simp [temptF, c_7, c_8]; done) | (simp [temptF, c_7, c_8]; exact fa_nlt (by assumption))) rfl dX6_isTempted_86
    · skip
      refine lv_iload_n C.1.1 C.1.2.1 dX6_isTempted_75 rfl (lv_at hl 2 rfl) ?_
      refine lv_bipush (v := 11) C.1.1 C.1.2.1 dX6_isTempted_76 rfl ?_
      refine lv_icmp_ne (tgt := 85) C.1.1 C.1.2.1 dX6_isTempted_78 (by decide) (fun c_9 => ?_) (fun c_9 => ?_)
      · skip
        refine lv_iconst (v := 0) C.1.1 C.1.2.1 dX6_isTempted_85 rfl ?_
        exact t_0 C rfl hP hS (by first | (simp [temptF, c_7, c_8, c_9]; done) | (simp [temptF, c_7, c_8, c_9]; exact fa_nlt (by assumption))) rfl dX6_isTempted_86
      · skip
        refine lv_iconst (v := 1) C.1.1 C.1.2.1 dX6_isTempted_81 rfl ?_
        refine lv_goto (tgt := 86) C.1.1 C.1.2.1 dX6_isTempted_82 (by decide) ?_
        exact t_1 C rfl hP hS (by first | (simp [temptF, c_7, c_8, c_9]; done) | (simp [temptF, c_7, c_8, c_9]; exact fa_nlt (by assumption))) rfl dX6_isTempted_86
  have hsw : (rowM (v.1 54) r 0).toInt < 2 ∨ 6 < (rowM (v.1 54) r 0).toInt := by
    have qc_1 := lv_neT (a := 2) c_1 rfl
    have qc_3 := lv_neT (a := 3) c_3 rfl
    have qc_4 := lv_neT (a := 4) c_4 rfl
    have qc_6 := lv_neT (a := 5) c_6 rfl
    have qc_7 := lv_neT (a := 6) c_7 rfl
    omega
  refine lv_tableOut (tgt := 87) C.1.1 C.1.2.1 dX6_isTempted_6 hsw (by decide) ?_
  refine lv_aload_n C.1.1 C.1.2.1 dX6_isTempted_87 rfl (lv_at hl 0 rfl) ?_
  refine lv_iload_n C.1.1 C.1.2.1 dX6_isTempted_88 rfl (lv_at hl 1 rfl) ?_
  refine lv_iconst (v := 3) C.1.1 C.1.2.1 dX6_isTempted_89 rfl ?_
  refine a_F hS (run_V C hP hS hl.1 53 6 (Nat.lt_of_lt_of_le (by decide) hn) rfl (by decide) rfl [.int (nI r), .int 3] (kX6_its l g n v r 3 (by omega) (by omega)) gX6_isTempted_X6_its rfl hdX6_its rfl ⟨rfl, rfl⟩ ⟨Nat.le_of_ble_eq_true rfl, Nat.le_of_ble_eq_true rfl⟩ rfl [] rfl (Nat.le_of_ble_eq_true rfl) dX6_isTempted_90 ⟨Nat.zero_le _, Nat.zero_le _⟩) (fun H locs hP hS => ?_)
  refine lv_bipush (v := 80) C.1.1 C.1.2.1 dX6_isTempted_93 rfl ?_
  refine lv_icmp_lt (tgt := 102) C.1.1 C.1.2.1 dX6_isTempted_95 (by decide) (fun c_10 => ?_) (fun c_10 => ?_)
  · skip
    refine lv_iconst (v := 0) C.1.1 C.1.2.1 dX6_isTempted_102 rfl ?_
    exact t_0 C rfl hP hS (by first | (simp [temptF, c_1, c_3, c_4, c_6, c_7, c_10]; done) | (simp [temptF, c_1, c_3, c_4, c_6, c_7, c_10]; exact fa_nlt (by assumption))) rfl dX6_isTempted_103
  · skip
    refine lv_iconst (v := 1) C.1.1 C.1.2.1 dX6_isTempted_98 rfl ?_
    refine lv_goto (tgt := 103) C.1.1 C.1.2.1 dX6_isTempted_99 (by decide) ?_
    exact t_1 C rfl hP hS (by first | (simp [temptF, c_1, c_3, c_4, c_6, c_7, c_10]; done) | (simp [temptF, c_1, c_3, c_4, c_6, c_7, c_10]; exact fa_nlt (by assumption))) rfl dX6_isTempted_103

abbrev rmX6_isComing : Room := { frames := 2, cells := 0, slots := 0, locals := 45 }
set_option maxHeartbeats 4000000 in
set_option maxRecDepth 100000 in
theorem kX6_isComing (l : Launch) (g : GG) (n : Nat) (v : SV) (r : Nat) (x : Int32) (hr : r < 8) : Met l yX6_isComing wsX6_isComing rmX6_isComing (PW g n v [.ref (gA g 53), .int (nI r), .int x]) (QB g n (comingM (v.1 54) r x) v) 0 0 (wA g n) := by
  refine Met.begin RX6 rfl (by decide) rfl (Nat.le_of_ble_eq_true rfl) ?_
  intro p e s m args below meth c ls ha C hP hS hl
  have hn : 64 ≤ n := C.2.1.1.2.1
  have hi6 : ∀ w ∈ u_ws RX6 TX6 17, w ∈ wsX6_isComing := by decide +kernel
  have hl : lv_has ls 3 [(0, .ref (gA g 53)), (1, .int (nI r)), (2, .int x)] := hl
  refine lv_aload_n C.1.1 C.1.2.1 dX6_isComing_0 rfl (lv_at hl 0 rfl) ?_
  refine lv_iload_n C.1.1 C.1.2.1 dX6_isComing_1 rfl (lv_at hl 1 rfl) ?_
  refine a_B hS (run_V C hP hS hl.1 53 6 (Nat.lt_of_lt_of_le (by decide) hn) rfl (by decide) rfl [.int (nI r)] (kX6_isAway l g n v r (by omega)) gX6_isComing_X6_isAway rfl hdX6_isAway rfl ⟨rfl, rfl⟩ ⟨Nat.le_of_ble_eq_true rfl, Nat.le_of_ble_eq_true rfl⟩ rfl [] rfl (Nat.le_of_ble_eq_true rfl) dX6_isComing_2 ⟨Nat.zero_le _, Nat.zero_le _⟩) (fun b_1 H locs hP hS => ?_) (fun b_1 H locs hP hS => ?_)
  · skip
    refine lv_if_ne (tgt := 48) C.1.1 C.1.2.1 dX6_isComing_5 (by decide) (fun _ => ?_) (fun c_2 => absurd c_2 (by decide))
    refine lv_iconst (v := 0) C.1.1 C.1.2.1 dX6_isComing_48 rfl ?_
    exact t_0 C rfl hP hS (by first | exact ⟨by assumption, by first | assumption | exact fa_nlt (by assumption), by assumption, by first | assumption | exact fa_nlt (by assumption)⟩ | exact fun h => absurd h.1 (by assumption) | exact fun h => absurd (by assumption) h.1 | exact fun h => absurd h.2.1 (fa_lt_nle (by assumption)) | exact fun h => absurd h.2.2.1 (by assumption) | exact fun h => absurd h.2.2.2 (fa_lt_nle (by assumption))) rfl dX6_isComing_49
  · skip
    refine lv_if_ne (tgt := 48) C.1.1 C.1.2.1 dX6_isComing_5 (by decide) (fun c_3 => absurd c_3 (by decide)) (fun _ => ?_)
    refine lv_aload_n C.1.1 C.1.2.1 dX6_isComing_8 rfl (lv_at hl 0 rfl) ?_
    refine lv_iload_n C.1.1 C.1.2.1 dX6_isComing_9 rfl (lv_at hl 1 rfl) ?_
    refine a_F hS (run_V C hP hS hl.1 53 6 (Nat.lt_of_lt_of_le (by decide) hn) rfl (by decide) rfl [.int (nI r)] (kX6_far l g n v r (by omega)) gX6_isComing_X6_far rfl hdX6_far rfl ⟨rfl, rfl⟩ ⟨Nat.le_of_ble_eq_true rfl, Nat.le_of_ble_eq_true rfl⟩ rfl [] rfl (Nat.le_of_ble_eq_true rfl) dX6_isComing_10 ⟨Nat.zero_le _, Nat.zero_le _⟩) (fun H locs hP hS => ?_)
    refine lv_aload_n C.1.1 C.1.2.1 dX6_isComing_13 rfl (lv_at hl 0 rfl) ?_
    refine lv_iload_n C.1.1 C.1.2.1 dX6_isComing_14 rfl (lv_at hl 1 rfl) ?_
    refine a_F hS (run_V C hP hS hl.1 53 6 (Nat.lt_of_lt_of_le (by decide) hn) rfl (by decide) rfl [.int (nI r)] (kX6_hears l g n v r (by omega)) gX6_isComing_X6_hears rfl hdX6_hears rfl ⟨rfl, rfl⟩ ⟨Nat.le_of_ble_eq_true rfl, Nat.le_of_ble_eq_true rfl⟩ rfl [.int (sizeF ((rowM (v.1 54) r) 1 - v.1 54 3))] rfl (Nat.le_of_ble_eq_true rfl) dX6_isComing_15 ⟨Nat.zero_le _, Nat.zero_le _⟩) (fun H locs hP hS => ?_)
    refine lv_icmp_gt (tgt := 48) C.1.1 C.1.2.1 dX6_isComing_18 (by decide) (fun c_4 => ?_) (fun c_4 => ?_)
    · skip
      refine lv_iconst (v := 0) C.1.1 C.1.2.1 dX6_isComing_48 rfl ?_
      exact t_0 C rfl hP hS (by first | exact ⟨by assumption, by first | assumption | exact fa_nlt (by assumption), by assumption, by first | assumption | exact fa_nlt (by assumption)⟩ | exact fun h => absurd h.1 (by assumption) | exact fun h => absurd (by assumption) h.1 | exact fun h => absurd h.2.1 (fa_lt_nle (by assumption)) | exact fun h => absurd h.2.2.1 (by assumption) | exact fun h => absurd h.2.2.2 (fa_lt_nle (by assumption))) rfl dX6_isComing_49
    · skip
      refine lv_aload_n C.1.1 C.1.2.1 dX6_isComing_21 rfl (lv_at hl 0 rfl) ?_
      refine lv_iload_n C.1.1 C.1.2.1 dX6_isComing_22 rfl (lv_at hl 1 rfl) ?_
      refine lv_iload_n C.1.1 C.1.2.1 dX6_isComing_23 rfl (lv_at hl 2 rfl) ?_
      refine a_B hS (run_V C hP hS hl.1 53 6 (Nat.lt_of_lt_of_le (by decide) hn) rfl (by decide) rfl [.int (nI r), .int x] (kX6_isWanting l g n v r x (by omega)) gX6_isComing_X6_isWanting rfl hdX6_isWanting rfl ⟨rfl, rfl⟩ ⟨Nat.le_of_ble_eq_true rfl, Nat.le_of_ble_eq_true rfl⟩ rfl [] rfl (Nat.le_of_ble_eq_true rfl) dX6_isComing_24 ⟨Nat.zero_le _, Nat.zero_le _⟩) (fun b_5 H locs hP hS => ?_) (fun b_5 H locs hP hS => ?_)
      · skip
        refine lv_if_eq (tgt := 48) C.1.1 C.1.2.1 dX6_isComing_27 (by decide) (fun c_6 => absurd c_6 (by decide)) (fun _ => ?_)
        refine lv_aload_n C.1.1 C.1.2.1 dX6_isComing_30 rfl (lv_at hl 0 rfl) ?_
        refine lv_iload_n C.1.1 C.1.2.1 dX6_isComing_31 rfl (lv_at hl 1 rfl) ?_
        refine lv_iconst (v := 3) C.1.1 C.1.2.1 dX6_isComing_32 rfl ?_
        refine a_F hS (run_V C hP hS hl.1 53 6 (Nat.lt_of_lt_of_le (by decide) hn) rfl (by decide) rfl [.int (nI r), .int 3] (kX6_its l g n v r 3 (by omega) (by omega)) gX6_isComing_X6_its rfl hdX6_its rfl ⟨rfl, rfl⟩ ⟨Nat.le_of_ble_eq_true rfl, Nat.le_of_ble_eq_true rfl⟩ rfl [] rfl (Nat.le_of_ble_eq_true rfl) dX6_isComing_33 ⟨Nat.zero_le _, Nat.zero_le _⟩) (fun H locs hP hS => ?_)
        refine lv_aload_n C.1.1 C.1.2.1 dX6_isComing_36 rfl (lv_at hl 0 rfl) ?_
        refine lv_iload_n C.1.1 C.1.2.1 dX6_isComing_37 rfl (lv_at hl 1 rfl) ?_
        refine a_F hS (run_V C hP hS hl.1 53 6 (Nat.lt_of_lt_of_le (by decide) hn) rfl (by decide) rfl [.int (nI r)] (kX6_trusts l g n v r (by omega)) gX6_isComing_X6_trusts rfl hdX6_trusts rfl ⟨rfl, rfl⟩ ⟨Nat.le_of_ble_eq_true rfl, Nat.le_of_ble_eq_true rfl⟩ rfl [.int (rowM (v.1 54) r 3)] rfl (Nat.le_of_ble_eq_true rfl) dX6_isComing_38 ⟨Nat.zero_le _, Nat.zero_le _⟩) (fun H locs hP hS => ?_)
        refine lv_icmp_lt (tgt := 48) C.1.1 C.1.2.1 dX6_isComing_41 (by decide) (fun c_7 => ?_) (fun c_7 => ?_)
        · skip
          refine lv_iconst (v := 0) C.1.1 C.1.2.1 dX6_isComing_48 rfl ?_
          exact t_0 C rfl hP hS (by first | exact ⟨by assumption, by first | assumption | exact fa_nlt (by assumption), by assumption, by first | assumption | exact fa_nlt (by assumption)⟩ | exact fun h => absurd h.1 (by assumption) | exact fun h => absurd (by assumption) h.1 | exact fun h => absurd h.2.1 (fa_lt_nle (by assumption)) | exact fun h => absurd h.2.2.1 (by assumption) | exact fun h => absurd h.2.2.2 (fa_lt_nle (by assumption))) rfl dX6_isComing_49
        · skip
          refine lv_iconst (v := 1) C.1.1 C.1.2.1 dX6_isComing_44 rfl ?_
          refine lv_goto (tgt := 49) C.1.1 C.1.2.1 dX6_isComing_45 (by decide) ?_
          exact t_1 C rfl hP hS (by first | exact ⟨by assumption, by first | assumption | exact fa_nlt (by assumption), by assumption, by first | assumption | exact fa_nlt (by assumption)⟩ | exact fun h => absurd h.1 (by assumption) | exact fun h => absurd (by assumption) h.1 | exact fun h => absurd h.2.1 (fa_lt_nle (by assumption)) | exact fun h => absurd h.2.2.1 (by assumption) | exact fun h => absurd h.2.2.2 (fa_lt_nle (by assumption))) rfl dX6_isComing_49
      · skip
        refine lv_if_eq (tgt := 48) C.1.1 C.1.2.1 dX6_isComing_27 (by decide) (fun _ => ?_) (fun c_8 => absurd c_8 (by decide))
        refine lv_iconst (v := 0) C.1.1 C.1.2.1 dX6_isComing_48 rfl ?_
        exact t_0 C rfl hP hS (by first | exact ⟨by assumption, by first | assumption | exact fa_nlt (by assumption), by assumption, by first | assumption | exact fa_nlt (by assumption)⟩ | exact fun h => absurd h.1 (by assumption) | exact fun h => absurd (by assumption) h.1 | exact fun h => absurd h.2.1 (fa_lt_nle (by assumption)) | exact fun h => absurd h.2.2.1 (by assumption) | exact fun h => absurd h.2.2.2 (fa_lt_nle (by assumption))) rfl dX6_isComing_49

abbrev rmX6_fetch : Room := { frames := 0, cells := 0, slots := 0, locals := 0 }
set_option maxHeartbeats 4000000 in
set_option maxRecDepth 100000 in
theorem kX6_fetch (l : Launch) (g : GG) (n : Nat) (v : SV)  : Met l yX6_fetch wsX6_fetch rmX6_fetch (PW g n v [.ref (gA g 53)]) (QF g n (fetchM (v.1 54)) v) 0 0 (wA g n) := by
  refine Met.begin RX6 rfl (by decide) rfl (Nat.le_of_ble_eq_true rfl) ?_
  intro p e s m args below meth c ls ha C hP hS hl
  have hn : 64 ≤ n := C.2.1.1.2.1
  have hi6 : ∀ w ∈ u_ws RX6 TX6 17, w ∈ wsX6_fetch := by decide +kernel
  have hl : lv_has ls 5 [(0, .ref (gA g 53))] := hl
  refine lv_iconst (v := 0) C.1.1 C.1.2.1 dX6_fetch_0 rfl ?_
  refine lv_istore_n (lv' := [(1, .int 0), (0, .ref (gA g 53))]) C.1.1 C.1.2.1 dX6_fetch_1 rfl hl (by decide) rfl (fun ls hl => ?_)
  refine lv_iconst (v := 0) C.1.1 C.1.2.1 dX6_fetch_2 rfl ?_
  refine lv_istore_n (lv' := [(2, .int 0), (1, .int 0), (0, .ref (gA g 53))]) C.1.1 C.1.2.1 dX6_fetch_3 rfl hl (by decide) rfl (fun ls hl => ?_)
  refine lv_iconst (v := 0) C.1.1 C.1.2.1 dX6_fetch_4 rfl ?_
  refine lv_istore_n (lv' := [(3, .int 0), (2, .int 0), (1, .int 0), (0, .ref (gA g 53))]) C.1.1 C.1.2.1 dX6_fetch_5 rfl hl (by decide) rfl (fun ls hl => ?_)
  have lp_6 : ∀ (k_6 i : Nat), i ≤ 12 → 12 + 1 ≤ i + k_6 → ∀ (H : Heap) (locs : List Loc) (ls : Array Slot), va_P g.1 vwCl (wl g n v) H → va_S (wA g n) s.heap H locs → lv_has ls 5 [(0, .ref (gA g 53)), (1, .int (mostM (v.1 54) i)), (2, .int (manyM (v.1 54) i)), (3, .int (nI i))] → W p l e rmX6_fetch s m args below meth c H locs 0 0 (MQ below (QF g n (fetchM (v.1 54)) v) args s 0 0 (wA g n)) (F0 m 6 ls []) := by
    clear hP hS hl
    intro k_6
    induction k_6 with
    | zero => exact fun i h1 h2 => absurd h2 (by omega)
    | succ k_6 ih_6 =>
      intro i hi_6 hk_6 H locs ls hP hS hl
      refine lv_iload_n C.1.1 C.1.2.1 dX6_fetch_6 rfl (lv_at hl 3 rfl) ?_
      refine lv_bipush (v := 12) C.1.1 C.1.2.1 dX6_fetch_7 rfl ?_
      refine lv_icmp_ge (tgt := 55) C.1.1 C.1.2.1 dX6_fetch_9 (by decide) (fun c_1 => ?_) (fun c_1 => ?_)
      · rw [show (12 ≤ nI i) = (12 ≤ i) from propext (nI_leI (a := 12) (b := i) (by omega) (by omega))] at c_1
        have hi12 : i = 12 := by omega
        subst hi12
        refine lv_iload_n C.1.1 C.1.2.1 dX6_fetch_55 rfl (lv_at hl 1 rfl) ?_
        refine lv_iconst (v := 5) C.1.1 C.1.2.1 dX6_fetch_56 rfl ?_
        refine lv_iload_n C.1.1 C.1.2.1 dX6_fetch_57 rfl (lv_at hl 2 rfl) ?_
        refine lv_imul C.1.1 C.1.2.1 dX6_fetch_58 ?_
        refine lv_iadd C.1.1 C.1.2.1 dX6_fetch_59 ?_
        exact t_F C rfl hP hS rfl rfl dX6_fetch_60
      · rw [show (12 ≤ nI i) = (12 ≤ i) from propext (nI_leI (a := 12) (b := i) (by omega) (by omega))] at c_1
        refine lv_aload_n C.1.1 C.1.2.1 dX6_fetch_12 rfl (lv_at hl 0 rfl) ?_
        refine r_get C hP 53 6 (Nat.lt_of_lt_of_le (by decide) hn) rfl (by decide) rfl hi6 0 (by decide) (List.mem_of_getElem? (i := 1) rfl) rfl (val := .ref (gA g 54)) rfl dX6_fetch_13 ?_
        refine lv_bipush (v := 13) C.1.1 C.1.2.1 dX6_fetch_16 rfl ?_
        refine lv_iload_n C.1.1 C.1.2.1 dX6_fetch_18 rfl (lv_at hl 3 rfl) ?_
        refine lv_iadd C.1.1 C.1.2.1 dX6_fetch_19 ?_
        refine lv_topE (nI (13 + i)) (nI_add 13 i) ?_
        refine r_iald C hP 54 (Nat.lt_of_lt_of_le (by decide) hn) rfl (13 + i) rfl (N := 83) rfl (by decide) (by omega) dX6_fetch_20 ?_
        refine lv_istore (lv' := [(4, .int (v.1 54 (13 + i))), (0, .ref (gA g 53)), (1, .int (mostM (v.1 54) i)), (2, .int (manyM (v.1 54) i)), (3, .int (nI i))]) C.1.1 C.1.2.1 dX6_fetch_21 hl (by decide) rfl (fun ls hl => ?_)
        refine lv_iload C.1.1 C.1.2.1 dX6_fetch_23 (lv_at hl 0 rfl) ?_
        refine lv_iload_n C.1.1 C.1.2.1 dX6_fetch_25 rfl (lv_at hl 2 rfl) ?_
        have jn_2 : ∀ (H : Heap) (locs : List Loc) (ls : Array Slot), va_P g.1 vwCl (wl g n v) H → va_S (wA g n) s.heap H locs → lv_has ls 5 [(4, .int (v.1 54 (13 + i))), (0, .ref (gA g 53)), (1, .int (mostM (v.1 54) i)), (2, .int (manyM (v.1 54) i)), (3, .int (nI i))] → W p l e rmX6_fetch s m args below meth c H locs 0 0 (MQ below (QF g n (fetchM (v.1 54)) v) args s 0 0 (wA g n)) (F0 m 35 ls [.int (if (v.1 54 (13 + i)) ≤ (mostM (v.1 54) i) then (mostM (v.1 54) i) else (v.1 54 (13 + i)))]) := by
          clear hP hS hl
          intro H locs ls hP hS hl
          refine lv_istore_n (lv' := [(1, .int (if (v.1 54 (13 + i)) ≤ (mostM (v.1 54) i) then (mostM (v.1 54) i) else (v.1 54 (13 + i)))), (4, .int (v.1 54 (13 + i))), (0, .ref (gA g 53)), (2, .int (manyM (v.1 54) i)), (3, .int (nI i))]) C.1.1 C.1.2.1 dX6_fetch_35 rfl hl (by decide) rfl (fun ls hl => ?_)
          refine lv_iload_n C.1.1 C.1.2.1 dX6_fetch_36 rfl (lv_at hl 3 rfl) ?_
          refine lv_iload C.1.1 C.1.2.1 dX6_fetch_37 (lv_at hl 1 rfl) ?_
          have jn_3 : ∀ (H : Heap) (locs : List Loc) (ls : Array Slot), va_P g.1 vwCl (wl g n v) H → va_S (wA g n) s.heap H locs → lv_has ls 5 [(1, .int (if (v.1 54 (13 + i)) ≤ (mostM (v.1 54) i) then (mostM (v.1 54) i) else (v.1 54 (13 + i)))), (4, .int (v.1 54 (13 + i))), (0, .ref (gA g 53)), (2, .int (manyM (v.1 54) i)), (3, .int (nI i))] → W p l e rmX6_fetch s m args below meth c H locs 0 0 (MQ below (QF g n (fetchM (v.1 54)) v) args s 0 0 (wA g n)) (F0 m 47 ls [.int (if (v.1 54 (13 + i)) ≤ 0 then 0 else 1), .int (manyM (v.1 54) i)]) := by
            clear hP hS hl
            intro H locs ls hP hS hl
            refine lv_iadd C.1.1 C.1.2.1 dX6_fetch_47 ?_
            refine lv_istore_n (lv' := [(2, .int ((manyM (v.1 54) i) + (if (v.1 54 (13 + i)) ≤ 0 then 0 else 1))), (1, .int (if (v.1 54 (13 + i)) ≤ (mostM (v.1 54) i) then (mostM (v.1 54) i) else (v.1 54 (13 + i)))), (4, .int (v.1 54 (13 + i))), (0, .ref (gA g 53)), (3, .int (nI i))]) C.1.1 C.1.2.1 dX6_fetch_48 rfl hl (by decide) rfl (fun ls hl => ?_)
            refine lv_iinc (v := nI (i + 1)) (lv' := [(3, .int (nI (i + 1))), (2, .int ((manyM (v.1 54) i) + (if (v.1 54 (13 + i)) ≤ 0 then 0 else 1))), (1, .int (if (v.1 54 (13 + i)) ≤ (mostM (v.1 54) i) then (mostM (v.1 54) i) else (v.1 54 (13 + i)))), (4, .int (v.1 54 (13 + i))), (0, .ref (gA g 53))]) C.1.1 C.1.2.1 dX6_fetch_49 hl (k := 4) rfl (nI_1 i) (by decide) rfl (fun ls hl => ?_)
            refine lv_goto (tgt := 6) C.1.1 C.1.2.1 dX6_fetch_52 (by decide) ?_
            exact ih_6 (i + 1) (by omega) (by omega) _ _ _ hP hS (lv_sub hl [4, 2, 1, 0] rfl)
          refine lv_if_le (tgt := 46) C.1.1 C.1.2.1 dX6_fetch_39 (by decide) (fun c_4 => ?_) (fun c_4 => ?_)
          · skip
            refine lv_iconst (v := 0) C.1.1 C.1.2.1 dX6_fetch_46 rfl ?_
            exact lv_topE (if (v.1 54 (13 + i)) ≤ 0 then 0 else 1) (by simp only [c_1, c_4, if_true, if_false, ite_true, ite_false]) (jn_3 _ _ _ hP hS (lv_sub hl [0, 1, 2, 3, 4] rfl))
          · skip
            refine lv_iconst (v := 1) C.1.1 C.1.2.1 dX6_fetch_42 rfl ?_
            refine lv_goto (tgt := 47) C.1.1 C.1.2.1 dX6_fetch_43 (by decide) ?_
            exact lv_topE (if (v.1 54 (13 + i)) ≤ 0 then 0 else 1) (by simp only [c_1, c_4, if_true, if_false, ite_true, ite_false]) (jn_3 _ _ _ hP hS (lv_sub hl [0, 1, 2, 3, 4] rfl))
        refine lv_icmp_le (tgt := 34) C.1.1 C.1.2.1 dX6_fetch_26 (by decide) (fun c_5 => ?_) (fun c_5 => ?_)
        · skip
          refine lv_iload_n C.1.1 C.1.2.1 dX6_fetch_34 rfl (lv_at hl 2 rfl) ?_
          exact lv_topE (if (v.1 54 (13 + i)) ≤ (mostM (v.1 54) i) then (mostM (v.1 54) i) else (v.1 54 (13 + i))) (by simp only [c_1, c_5, if_true, if_false, ite_true, ite_false]) (jn_2 _ _ _ hP hS (lv_sub hl [0, 1, 2, 3, 4] rfl))
        · skip
          refine lv_iload C.1.1 C.1.2.1 dX6_fetch_29 (lv_at hl 0 rfl) ?_
          refine lv_goto (tgt := 35) C.1.1 C.1.2.1 dX6_fetch_31 (by decide) ?_
          exact lv_topE (if (v.1 54 (13 + i)) ≤ (mostM (v.1 54) i) then (mostM (v.1 54) i) else (v.1 54 (13 + i))) (by simp only [c_1, c_5, if_true, if_false, ite_true, ite_false]) (jn_2 _ _ _ hP hS (lv_sub hl [0, 1, 2, 3, 4] rfl))
  exact lp_6 (12 + 1) 0 (Nat.zero_le _) (by omega) _ _ _ hP hS (lv_sub hl [3, 2, 1, 0] rfl)

abbrev rmX6_copies : Room := { frames := 0, cells := 0, slots := 0, locals := 0 }
set_option maxHeartbeats 4000000 in
set_option maxRecDepth 100000 in
theorem kX6_copies (l : Launch) (g : GG) (n : Nat) (v : SV) (a b : Nat) (hpa : 54 ≤ a ∧ a ≤ 57) (hpb : 54 ≤ b ∧ b ≤ 57) (hab : a ≠ b) : Met l yX6_copies wsX6_copies rmX6_copies (PW g n v [.ref (gA g a), .ref (gA g b)]) (QG g n (upw v b (cpyM (v.1 a) (v.1 b) 83))) 0 0 (wA g n) := by
  refine Met.begin RX6 rfl (by decide) rfl (Nat.le_of_ble_eq_true rfl) ?_
  intro p e s m args below meth c ls ha C hP hS hl
  have hn : 64 ≤ n := C.2.1.1.2.1
  have hl : lv_has ls 3 [(0, .ref (gA g a)), (1, .ref (gA g b))] := hl
  have ka : kd a = 8 := kd_ms a hpa
  have kb : kd b = 8 := kd_ms b hpb
  have la : ln a = 83 := ln_ms a hpa
  have lb : ln b = 83 := ln_ms b hpb
  refine lv_iconst (v := 0) C.1.1 C.1.2.1 dX6_copies_0 rfl ?_
  refine lv_istore_n (lv' := [(2, .int 0), (0, .ref (gA g a)), (1, .ref (gA g b))]) C.1.1 C.1.2.1 dX6_copies_1 rfl hl (by decide) rfl (fun ls hl => ?_)
  have lp_2 : ∀ (k_2 i : Nat), i ≤ 83 → 83 + 1 ≤ i + k_2 → ∀ (H : Heap) (locs : List Loc) (ls : Array Slot), va_P g.1 vwCl (wl g n (upw v b (cpyM (v.1 a) (v.1 b) i))) H → va_S (wA g n) s.heap H locs → lv_has ls 3 [(0, .ref (gA g a)), (1, .ref (gA g b)), (2, .int (nI i))] → W p l e rmX6_copies s m args below meth c H locs 0 0 (MQ below (QG g n (upw v b (cpyM (v.1 a) (v.1 b) 83))) args s 0 0 (wA g n)) (F0 m 2 ls []) := by
    clear hP hS hl
    intro k_2
    induction k_2 with
    | zero => exact fun i h1 h2 => absurd h2 (by omega)
    | succ k_2 ih_2 =>
      intro i hi_2 hk_2 H locs ls hP hS hl
      refine lv_iload_n C.1.1 C.1.2.1 dX6_copies_2 rfl (lv_at hl 2 rfl) ?_
      refine lv_bipush (v := 83) C.1.1 C.1.2.1 dX6_copies_3 rfl ?_
      refine lv_icmp_ge (tgt := 20) C.1.1 C.1.2.1 dX6_copies_5 (by decide) (fun c_1 => ?_) (fun c_1 => ?_)
      · rw [show (83 ≤ nI i) = (83 ≤ i) from propext (nI_leI (a := 83) (b := i) (by omega) (by omega))] at c_1
        have hi83 : i = 83 := by omega
        subst hi83
        exact t_G C rfl hP hS rfl dX6_copies_20
      · rw [show (83 ≤ nI i) = (83 ≤ i) from propext (nI_leI (a := 83) (b := i) (by omega) (by omega))] at c_1
        refine lv_aload_n C.1.1 C.1.2.1 dX6_copies_8 rfl (lv_at hl 1 rfl) ?_
        refine lv_iload_n C.1.1 C.1.2.1 dX6_copies_9 rfl (lv_at hl 2 rfl) ?_
        refine lv_aload_n C.1.1 C.1.2.1 dX6_copies_10 rfl (lv_at hl 0 rfl) ?_
        refine lv_iload_n C.1.1 C.1.2.1 dX6_copies_11 rfl (lv_at hl 2 rfl) ?_
        refine r_iald C hP a (by omega) (by assumption) i rfl (N := 83) la (by decide) (by omega) dX6_copies_12 ?_
        refine r_iast C hP hS b (by omega) (by assumption) i rfl (N := 83) lb (by decide) (by omega) dX6_copies_13 (fun H locs hP hS => ?_)
        obtain ⟨v_2, hv_2⟩ : ∃ zz, zz = up (upw v b (cpyM (v.1 a) (v.1 b) i)) b i ((upw v b (cpyM (v.1 a) (v.1 b) i)).1 a i) := ⟨_, rfl⟩
        rw [← hv_2] at hP
        refine lv_iinc (v := nI (i + 1)) (lv' := [(2, .int (nI (i + 1))), (0, .ref (gA g a)), (1, .ref (gA g b))]) C.1.1 C.1.2.1 dX6_copies_14 hl (k := 2) rfl (nI_1 i) (by decide) rfl (fun ls hl => ?_)
        refine lv_goto (tgt := 2) C.1.1 C.1.2.1 dX6_copies_17 (by decide) ?_
        exact ih_2 (i + 1) (by omega) (by omega) _ _ _ (by rw [hv_2, cpy_st hab] at hP; exact hP) hS (lv_sub hl [1, 2, 0] rfl)
  exact lp_2 (83 + 1) 0 (Nat.zero_le _) (by omega) _ _ _ (by rw [cpyM_0, upw_self]; exact hP) hS (lv_sub hl [1, 2, 0] rfl)

abbrev rmX6_dayGoes : Room := { frames := 3, cells := 0, slots := 0, locals := 67 }
set_option maxHeartbeats 4000000 in
set_option maxRecDepth 100000 in
theorem kX6_dayGoes (l : Launch) (g : GG) (n : Nat) (v : SV) (N : Nat) (hM : okM (v.1 54) N) : Met l yX6_dayGoes wsX6_dayGoes rmX6_dayGoes (PW g n v [.ref (gA g 53)]) (QG g n (upw v 54 (dayM (v.1 54)))) 0 0 (wA g n) := by
  refine Met.begin RX6 rfl (by decide) rfl (Nat.le_of_ble_eq_true rfl) ?_
  intro p e s m args below meth c ls ha C hP hS hl
  have hn : 64 ≤ n := C.2.1.1.2.1
  have hi6 : ∀ w ∈ u_ws RX6 TX6 17, w ∈ wsX6_dayGoes := by decide +kernel
  have hl : lv_has ls 4 [(0, .ref (gA g 53))] := hl
  have h8 := hM.1
  refine lv_aload_n C.1.1 C.1.2.1 dX6_dayGoes_0 rfl (lv_at hl 0 rfl) ?_
  refine r_get C hP 53 6 (Nat.lt_of_lt_of_le (by decide) hn) rfl (by decide) rfl hi6 0 (by decide) (List.mem_of_getElem? (i := 1) rfl) rfl (val := .ref (gA g 54)) rfl dX6_dayGoes_1 ?_
  refine lv_iconst (v := 3) C.1.1 C.1.2.1 dX6_dayGoes_4 rfl ?_
  refine lv_aload_n C.1.1 C.1.2.1 dX6_dayGoes_5 rfl (lv_at hl 0 rfl) ?_
  refine r_get C hP 53 6 (Nat.lt_of_lt_of_le (by decide) hn) rfl (by decide) rfl hi6 0 (by decide) (List.mem_of_getElem? (i := 1) rfl) rfl (val := .ref (gA g 54)) rfl dX6_dayGoes_6 ?_
  refine lv_iconst (v := 3) C.1.1 C.1.2.1 dX6_dayGoes_9 rfl ?_
  refine r_iald C hP 54 (Nat.lt_of_lt_of_le (by decide) hn) rfl 3 rfl (N := 83) rfl (by decide) (by omega) dX6_dayGoes_10 ?_
  refine lv_aload_n C.1.1 C.1.2.1 dX6_dayGoes_11 rfl (lv_at hl 0 rfl) ?_
  refine r_get C hP 53 6 (Nat.lt_of_lt_of_le (by decide) hn) rfl (by decide) rfl hi6 0 (by decide) (List.mem_of_getElem? (i := 1) rfl) rfl (val := .ref (gA g 54)) rfl dX6_dayGoes_12 ?_
  refine lv_iconst (v := 4) C.1.1 C.1.2.1 dX6_dayGoes_15 rfl ?_
  refine r_iald C hP 54 (Nat.lt_of_lt_of_le (by decide) hn) rfl 4 rfl (N := 83) rfl (by decide) (by omega) dX6_dayGoes_16 ?_
  refine lv_iadd C.1.1 C.1.2.1 dX6_dayGoes_17 ?_
  refine lv_bipush (v := 16) C.1.1 C.1.2.1 dX6_dayGoes_18 rfl ?_
  refine lv_irem C.1.1 C.1.2.1 dX6_dayGoes_20 (by decide) ?_
  refine r_iast C hP hS 54 (Nat.lt_of_lt_of_le (by decide) hn) rfl 3 rfl (N := 83) rfl (by decide) (by omega) dX6_dayGoes_21 (fun H locs hP hS => ?_)
  obtain ⟨d_1, hd_1⟩ : ∃ zz, zz = upd (v.1 54) 3 (((v.1 54 3) + (v.1 54 4)) - ((v.1 54 3) + (v.1 54 4)) / 16 * 16) := ⟨_, rfl⟩
  rw [show up v 54 3 (((v.1 54 3) + (v.1 54 4)) - ((v.1 54 3) + (v.1 54 4)) / 16 * 16) = upw v 54 d_1 from by rw [hd_1]] at hP
  have hM1 : okM d_1 N := by rw [hd_1]; exact okM_mv hM
  obtain ⟨D, hD, eD⟩ := hM1.2.2.1
  have hq0 := okM_gq hM1
  obtain ⟨q, hqq⟩ : ∃ zz, zz = gqM d_1 := ⟨_, rfl⟩
  rw [← hqq, eD, nI_clamp (by omega)] at hq0
  obtain ⟨hq, hqe⟩ := hq0
  refine lv_aload_n C.1.1 C.1.2.1 dX6_dayGoes_22 rfl (lv_at hl 0 rfl) ?_
  refine r_get C hP 53 6 (Nat.lt_of_lt_of_le (by decide) hn) rfl (by decide) rfl hi6 0 (by decide) (List.mem_of_getElem? (i := 1) rfl) rfl (val := .ref (gA g 54)) rfl dX6_dayGoes_23 ?_
  refine lv_bipush (v := 7) C.1.1 C.1.2.1 dX6_dayGoes_26 rfl ?_
  refine lv_aload_n C.1.1 C.1.2.1 dX6_dayGoes_28 rfl (lv_at hl 0 rfl) ?_
  refine r_get C hP 53 6 (Nat.lt_of_lt_of_le (by decide) hn) rfl (by decide) rfl hi6 0 (by decide) (List.mem_of_getElem? (i := 1) rfl) rfl (val := .ref (gA g 54)) rfl dX6_dayGoes_29 ?_
  refine lv_iconst (v := 1) C.1.1 C.1.2.1 dX6_dayGoes_32 rfl ?_
  refine r_iald C hP 54 (Nat.lt_of_lt_of_le (by decide) hn) rfl 1 rfl (N := 83) rfl (by decide) (by omega) dX6_dayGoes_33 ?_
  refine lv_topE (d_1 1) rfl ?_
  refine lv_topE (nI D) eD ?_
  refine lv_bipush (v := 6) C.1.1 C.1.2.1 dX6_dayGoes_34 rfl ?_
  refine lv_irem C.1.1 C.1.2.1 dX6_dayGoes_36 (by decide) ?_
  refine lv_topE (nI (D % 6)) (pk_rem (by omega) (by decide) (by decide)) ?_
  refine lv_iadd C.1.1 C.1.2.1 dX6_dayGoes_37 ?_
  refine lv_topE (nI (7 + (D % 6))) (nI_add 7 (D % 6)) ?_
  refine r_iald C hP 54 (Nat.lt_of_lt_of_le (by decide) hn) rfl (7 + (D % 6)) rfl (N := 83) rfl (by decide) (by omega) dX6_dayGoes_38 ?_
  refine lv_topE (d_1 (7 + (D % 6))) rfl ?_
  refine lv_topE (nI q) hqe ?_
  refine lv_istore_n (lv' := [(1, .int (nI q)), (0, .ref (gA g 53))]) C.1.1 C.1.2.1 dX6_dayGoes_39 rfl hl (by decide) rfl (fun ls hl => ?_)
  refine lv_iconst (v := 0) C.1.1 C.1.2.1 dX6_dayGoes_40 rfl ?_
  refine lv_istore_n (lv' := [(2, .int 0), (1, .int (nI q)), (0, .ref (gA g 53))]) C.1.1 C.1.2.1 dX6_dayGoes_41 rfl hl (by decide) rfl (fun ls hl => ?_)
  have lp_42 : ∀ (k_42 i : Nat), i ≤ N → N + 1 ≤ i + k_42 → ∀ (H : Heap) (locs : List Loc) (ls : Array Slot), va_P g.1 vwCl (wl g n (upw v 54 (lpM d_1 q i))) H → va_S (wA g n) s.heap H locs → lv_has ls 4 [(0, .ref (gA g 53)), (1, .int (nI q)), (2, .int (nI i))] → W p l e rmX6_dayGoes s m args below meth c H locs 0 0 (MQ below (QG g n (upw v 54 (dayM (v.1 54)))) args s 0 0 (wA g n)) (F0 m 42 ls []) := by
    clear hP hS hl
    intro k_42
    induction k_42 with
    | zero => exact fun i h1 h2 => absurd h2 (by omega)
    | succ k_42 ih_42 =>
      intro i hi_42 hk_42 H locs ls hP hS hl
      have hMi := okM_lp (q := q) (i := i) hM1 (by omega)
      obtain ⟨dd, hdd⟩ : ∃ zz, zz = lpM d_1 q i := ⟨_, rfl⟩
      rw [← hdd] at hP hMi
      refine lv_iload_n C.1.1 C.1.2.1 dX6_dayGoes_42 rfl (lv_at hl 2 rfl) ?_
      refine lv_aload_n C.1.1 C.1.2.1 dX6_dayGoes_43 rfl (lv_at hl 0 rfl) ?_
      refine r_get C hP 53 6 (Nat.lt_of_lt_of_le (by decide) hn) rfl (by decide) rfl hi6 0 (by decide) (List.mem_of_getElem? (i := 1) rfl) rfl (val := .ref (gA g 54)) rfl dX6_dayGoes_44 ?_
      refine lv_iconst (v := 0) C.1.1 C.1.2.1 dX6_dayGoes_47 rfl ?_
      refine r_iald C hP 54 (Nat.lt_of_lt_of_le (by decide) hn) rfl 0 rfl (N := 83) rfl (by decide) (by omega) dX6_dayGoes_48 ?_
      refine lv_topE (dd 0) rfl ?_
      refine lv_topE (nI N) hMi.2.1 ?_
      refine lv_icmp_ge (tgt := 240) C.1.1 C.1.2.1 dX6_dayGoes_49 (by decide) (fun c_2 => ?_) (fun c_2 => ?_)
      · rw [show (nI N ≤ nI i) = (N ≤ i) from propext (nI_leI (a := N) (b := i) (by omega) (by omega))] at c_2
        have hiN : i = N := by omega
        refine lv_aload_n C.1.1 C.1.2.1 dX6_dayGoes_240 rfl (lv_at hl 0 rfl) ?_
        refine r_get C hP 53 6 (Nat.lt_of_lt_of_le (by decide) hn) rfl (by decide) rfl hi6 0 (by decide) (List.mem_of_getElem? (i := 1) rfl) rfl (val := .ref (gA g 54)) rfl dX6_dayGoes_241 ?_
        refine lv_iconst (v := 1) C.1.1 C.1.2.1 dX6_dayGoes_244 rfl ?_
        refine r_iald C hP 54 (Nat.lt_of_lt_of_le (by decide) hn) rfl 1 rfl (N := 83) rfl (by decide) (by omega) dX6_dayGoes_245 ?_
        refine lv_topE (dd 1) rfl ?_
        refine lv_bipush (v := 7) C.1.1 C.1.2.1 dX6_dayGoes_246 rfl ?_
        refine lv_irem C.1.1 C.1.2.1 dX6_dayGoes_248 (by decide) ?_
        refine lv_bipush (v := 6) C.1.1 C.1.2.1 dX6_dayGoes_249 rfl ?_
        refine lv_icmp_ne (tgt := 303) C.1.1 C.1.2.1 dX6_dayGoes_251 (by decide) (fun c_3 => ?_) (fun c_3 => ?_)
        · skip
          refine lv_aload_n C.1.1 C.1.2.1 dX6_dayGoes_303 rfl (lv_at hl 0 rfl) ?_
          refine r_get C hP 53 6 (Nat.lt_of_lt_of_le (by decide) hn) rfl (by decide) rfl hi6 0 (by decide) (List.mem_of_getElem? (i := 1) rfl) rfl (val := .ref (gA g 54)) rfl dX6_dayGoes_304 ?_
          refine lv_iconst (v := 1) C.1.1 C.1.2.1 dX6_dayGoes_307 rfl ?_
          refine lv_aload_n C.1.1 C.1.2.1 dX6_dayGoes_308 rfl (lv_at hl 0 rfl) ?_
          refine r_get C hP 53 6 (Nat.lt_of_lt_of_le (by decide) hn) rfl (by decide) rfl hi6 0 (by decide) (List.mem_of_getElem? (i := 1) rfl) rfl (val := .ref (gA g 54)) rfl dX6_dayGoes_309 ?_
          refine lv_iconst (v := 1) C.1.1 C.1.2.1 dX6_dayGoes_312 rfl ?_
          refine r_iald C hP 54 (Nat.lt_of_lt_of_le (by decide) hn) rfl 1 rfl (N := 83) rfl (by decide) (by omega) dX6_dayGoes_313 ?_
          refine lv_topE (dd 1) rfl ?_
          refine lv_iconst (v := 1) C.1.1 C.1.2.1 dX6_dayGoes_314 rfl ?_
          refine lv_iadd C.1.1 C.1.2.1 dX6_dayGoes_315 ?_
          refine lv_iconst (v := 0) C.1.1 C.1.2.1 dX6_dayGoes_316 rfl ?_
          refine lv_ldc (v := 99999) C.1.1 C.1.2.1 C.1.2.2.2.1 (C.1.2.2.2.2 _ (List.mem_of_getElem? (i := 2) rfl)) dX6_dayGoes_317 ?_
          refine a_F hS (run_S C hP hS hl.1 [.int ((dd 1) + 1), .int 0, .int 99999] (kX6_held l g n (upw v 54 dd) ((dd 1) + 1) 0 99999) gX6_dayGoes_X6_held hdX6_held rfl ⟨rfl, rfl⟩ ⟨Nat.le_of_ble_eq_true rfl, Nat.le_of_ble_eq_true rfl⟩ rfl [.int 1, .ref (gA g 54)] rfl (Nat.le_of_ble_eq_true rfl) dX6_dayGoes_319 ⟨Nat.zero_le _, Nat.zero_le _⟩) (fun H locs hP hS => ?_)
          refine r_iast C hP hS 54 (Nat.lt_of_lt_of_le (by decide) hn) rfl 1 rfl (N := 83) rfl (by decide) (by omega) dX6_dayGoes_322 (fun H locs hP hS => ?_)
          obtain ⟨d_4, hd_4⟩ : ∃ zz, zz = upd dd 1 (heldF ((dd 1) + 1) 0 99999) := ⟨_, rfl⟩
          rw [show up (upw v 54 dd) 54 1 (heldF ((dd 1) + 1) 0 99999) = upw v 54 d_4 from by rw [hd_4]; exact upw_up _ _ _ _ _] at hP
          exact t_G C rfl hP hS (by have e1 : lpM (mvM (v.1 54)) (gqM (mvM (v.1 54))) (v.1 54 0).toNatClampNeg = dd := (by rw [show mvM (v.1 54) = d_1 from hd_1.symm, ← hqq, hM.2.1, nI_clamp (by omega), ← hiN, hdd]); have e2 : sellM dd = dd := (by rw [sellM, if_neg c_3]); show upw v 54 d_4 = upw v 54 (nextM (sellM (lpM (mvM (v.1 54)) (gqM (mvM (v.1 54))) (v.1 54 0).toNatClampNeg))); rw [e1, e2, hd_4]; rfl) dX6_dayGoes_323
        · skip
          refine lv_aload_n C.1.1 C.1.2.1 dX6_dayGoes_254 rfl (lv_at hl 0 rfl) ?_
          refine r_get C hP 53 6 (Nat.lt_of_lt_of_le (by decide) hn) rfl (by decide) rfl hi6 0 (by decide) (List.mem_of_getElem? (i := 1) rfl) rfl (val := .ref (gA g 54)) rfl dX6_dayGoes_255 ?_
          refine lv_bipush (v := 6) C.1.1 C.1.2.1 dX6_dayGoes_258 rfl ?_
          refine lv_aload_n C.1.1 C.1.2.1 dX6_dayGoes_260 rfl (lv_at hl 0 rfl) ?_
          refine r_get C hP 53 6 (Nat.lt_of_lt_of_le (by decide) hn) rfl (by decide) rfl hi6 0 (by decide) (List.mem_of_getElem? (i := 1) rfl) rfl (val := .ref (gA g 54)) rfl dX6_dayGoes_261 ?_
          refine lv_bipush (v := 6) C.1.1 C.1.2.1 dX6_dayGoes_264 rfl ?_
          refine r_iald C hP 54 (Nat.lt_of_lt_of_le (by decide) hn) rfl 6 rfl (N := 83) rfl (by decide) (by omega) dX6_dayGoes_266 ?_
          refine lv_topE (dd 6) rfl ?_
          refine lv_aload_n C.1.1 C.1.2.1 dX6_dayGoes_267 rfl (lv_at hl 0 rfl) ?_
          refine a_F hS (run_V C hP hS hl.1 53 6 (Nat.lt_of_lt_of_le (by decide) hn) rfl (by decide) rfl [] (kX6_fetch l g n (upw v 54 dd) ) gX6_dayGoes_X6_fetch rfl hdX6_fetch rfl ⟨rfl, rfl⟩ ⟨Nat.le_of_ble_eq_true rfl, Nat.le_of_ble_eq_true rfl⟩ rfl [.int (dd 6), .int 6, .ref (gA g 54)] rfl (Nat.le_of_ble_eq_true rfl) dX6_dayGoes_268 ⟨Nat.zero_le _, Nat.zero_le _⟩) (fun H locs hP hS => ?_)
          refine lv_topE (fetchM dd) rfl ?_
          refine lv_iadd C.1.1 C.1.2.1 dX6_dayGoes_271 ?_
          refine lv_iconst (v := 0) C.1.1 C.1.2.1 dX6_dayGoes_272 rfl ?_
          refine lv_ldc (v := 99999) C.1.1 C.1.2.1 C.1.2.2.2.1 (C.1.2.2.2.2 _ (List.mem_of_getElem? (i := 2) rfl)) dX6_dayGoes_273 ?_
          refine a_F hS (run_S C hP hS hl.1 [.int ((dd 6) + (fetchM dd)), .int 0, .int 99999] (kX6_held l g n (upw v 54 dd) ((dd 6) + (fetchM dd)) 0 99999) gX6_dayGoes_X6_held hdX6_held rfl ⟨rfl, rfl⟩ ⟨Nat.le_of_ble_eq_true rfl, Nat.le_of_ble_eq_true rfl⟩ rfl [.int 6, .ref (gA g 54)] rfl (Nat.le_of_ble_eq_true rfl) dX6_dayGoes_275 ⟨Nat.zero_le _, Nat.zero_le _⟩) (fun H locs hP hS => ?_)
          refine r_iast C hP hS 54 (Nat.lt_of_lt_of_le (by decide) hn) rfl 6 rfl (N := 83) rfl (by decide) (by omega) dX6_dayGoes_278 (fun H locs hP hS => ?_)
          obtain ⟨d_5, hd_5⟩ : ∃ zz, zz = upd dd 6 (heldF ((dd 6) + (fetchM dd)) 0 99999) := ⟨_, rfl⟩
          rw [show up (upw v 54 dd) 54 6 (heldF ((dd 6) + (fetchM dd)) 0 99999) = upw v 54 d_5 from by rw [hd_5]; exact upw_up _ _ _ _ _] at hP
          obtain ⟨ds, hds⟩ : ∃ zz, zz = d_5 := ⟨_, rfl⟩
          rw [← hds] at hP
          rw [hd_5] at hds
          refine lv_iconst (v := 0) C.1.1 C.1.2.1 dX6_dayGoes_279 rfl ?_
          refine lv_istore_n (lv' := [(2, .int 0), (0, .ref (gA g 53)), (1, .int (nI q))]) C.1.1 C.1.2.1 dX6_dayGoes_280 rfl hl (by decide) rfl (fun ls hl => ?_)
          have lp_281 : ∀ (k_281 j : Nat), j ≤ 12 → 12 + 1 ≤ j + k_281 → ∀ (H : Heap) (locs : List Loc) (ls : Array Slot), va_P g.1 vwCl (wl g n (upw v 54 (clrM ds j))) H → va_S (wA g n) s.heap H locs → lv_has ls 4 [(0, .ref (gA g 53)), (1, .int (nI q)), (2, .int (nI j))] → W p l e rmX6_dayGoes s m args below meth c H locs 0 0 (MQ below (QG g n (upw v 54 (dayM (v.1 54)))) args s 0 0 (wA g n)) (F0 m 281 ls []) := by
            clear hP hS hl
            intro k_281
            induction k_281 with
            | zero => exact fun j h1 h2 => absurd h2 (by omega)
            | succ k_281 ih_281 =>
              intro j hi_281 hk_281 H locs ls hP hS hl
              refine lv_iload_n C.1.1 C.1.2.1 dX6_dayGoes_281 rfl (lv_at hl 2 rfl) ?_
              refine lv_bipush (v := 12) C.1.1 C.1.2.1 dX6_dayGoes_282 rfl ?_
              refine lv_icmp_ge (tgt := 303) C.1.1 C.1.2.1 dX6_dayGoes_284 (by decide) (fun c_6 => ?_) (fun c_6 => ?_)
              · rw [show (12 ≤ nI j) = (12 ≤ j) from propext (nI_leI (a := 12) (b := j) (by omega) (by omega))] at c_6
                have hj12 : j = 12 := by omega
                subst hj12
                refine lv_aload_n C.1.1 C.1.2.1 dX6_dayGoes_303 rfl (lv_at hl 0 rfl) ?_
                refine r_get C hP 53 6 (Nat.lt_of_lt_of_le (by decide) hn) rfl (by decide) rfl hi6 0 (by decide) (List.mem_of_getElem? (i := 1) rfl) rfl (val := .ref (gA g 54)) rfl dX6_dayGoes_304 ?_
                refine lv_iconst (v := 1) C.1.1 C.1.2.1 dX6_dayGoes_307 rfl ?_
                refine lv_aload_n C.1.1 C.1.2.1 dX6_dayGoes_308 rfl (lv_at hl 0 rfl) ?_
                refine r_get C hP 53 6 (Nat.lt_of_lt_of_le (by decide) hn) rfl (by decide) rfl hi6 0 (by decide) (List.mem_of_getElem? (i := 1) rfl) rfl (val := .ref (gA g 54)) rfl dX6_dayGoes_309 ?_
                refine lv_iconst (v := 1) C.1.1 C.1.2.1 dX6_dayGoes_312 rfl ?_
                refine r_iald C hP 54 (Nat.lt_of_lt_of_le (by decide) hn) rfl 1 rfl (N := 83) rfl (by decide) (by omega) dX6_dayGoes_313 ?_
                refine lv_topE ((clrM ds 12) 1) rfl ?_
                refine lv_iconst (v := 1) C.1.1 C.1.2.1 dX6_dayGoes_314 rfl ?_
                refine lv_iadd C.1.1 C.1.2.1 dX6_dayGoes_315 ?_
                refine lv_iconst (v := 0) C.1.1 C.1.2.1 dX6_dayGoes_316 rfl ?_
                refine lv_ldc (v := 99999) C.1.1 C.1.2.1 C.1.2.2.2.1 (C.1.2.2.2.2 _ (List.mem_of_getElem? (i := 2) rfl)) dX6_dayGoes_317 ?_
                refine a_F hS (run_S C hP hS hl.1 [.int (((clrM ds 12) 1) + 1), .int 0, .int 99999] (kX6_held l g n (upw v 54 (clrM ds 12)) (((clrM ds 12) 1) + 1) 0 99999) gX6_dayGoes_X6_held hdX6_held rfl ⟨rfl, rfl⟩ ⟨Nat.le_of_ble_eq_true rfl, Nat.le_of_ble_eq_true rfl⟩ rfl [.int 1, .ref (gA g 54)] rfl (Nat.le_of_ble_eq_true rfl) dX6_dayGoes_319 ⟨Nat.zero_le _, Nat.zero_le _⟩) (fun H locs hP hS => ?_)
                refine r_iast C hP hS 54 (Nat.lt_of_lt_of_le (by decide) hn) rfl 1 rfl (N := 83) rfl (by decide) (by omega) dX6_dayGoes_322 (fun H locs hP hS => ?_)
                obtain ⟨d_7, hd_7⟩ : ∃ zz, zz = upd (clrM ds 12) 1 (heldF (((clrM ds 12) 1) + 1) 0 99999) := ⟨_, rfl⟩
                rw [show up (upw v 54 (clrM ds 12)) 54 1 (heldF (((clrM ds 12) 1) + 1) 0 99999) = upw v 54 d_7 from by rw [hd_7]; exact upw_up _ _ _ _ _] at hP
                exact t_G C rfl hP hS (by have e1 : lpM (mvM (v.1 54)) (gqM (mvM (v.1 54))) (v.1 54 0).toNatClampNeg = dd := (by rw [show mvM (v.1 54) = d_1 from hd_1.symm, ← hqq, hM.2.1, nI_clamp (by omega), ← hiN, hdd]); have e2 : sellM dd = clrM ds 12 := (by rw [sellM, if_pos c_3, hds]); show upw v 54 d_7 = upw v 54 (nextM (sellM (lpM (mvM (v.1 54)) (gqM (mvM (v.1 54))) (v.1 54 0).toNatClampNeg))); rw [e1, e2, hd_7]; rfl) dX6_dayGoes_323
              · rw [show (12 ≤ nI j) = (12 ≤ j) from propext (nI_leI (a := 12) (b := j) (by omega) (by omega))] at c_6
                refine lv_aload_n C.1.1 C.1.2.1 dX6_dayGoes_287 rfl (lv_at hl 0 rfl) ?_
                refine r_get C hP 53 6 (Nat.lt_of_lt_of_le (by decide) hn) rfl (by decide) rfl hi6 0 (by decide) (List.mem_of_getElem? (i := 1) rfl) rfl (val := .ref (gA g 54)) rfl dX6_dayGoes_288 ?_
                refine lv_bipush (v := 13) C.1.1 C.1.2.1 dX6_dayGoes_291 rfl ?_
                refine lv_iload_n C.1.1 C.1.2.1 dX6_dayGoes_293 rfl (lv_at hl 2 rfl) ?_
                refine lv_iadd C.1.1 C.1.2.1 dX6_dayGoes_294 ?_
                refine lv_topE (nI (13 + j)) (nI_add 13 j) ?_
                refine lv_iconst (v := 0) C.1.1 C.1.2.1 dX6_dayGoes_295 rfl ?_
                refine r_iast C hP hS 54 (Nat.lt_of_lt_of_le (by decide) hn) rfl (13 + j) rfl (N := 83) rfl (by decide) (by omega) dX6_dayGoes_296 (fun H locs hP hS => ?_)
                obtain ⟨d_8, hd_8⟩ : ∃ zz, zz = upd (clrM ds j) (13 + j) 0 := ⟨_, rfl⟩
                rw [show up (upw v 54 (clrM ds j)) 54 (13 + j) 0 = upw v 54 d_8 from by rw [hd_8]; exact upw_up _ _ _ _ _] at hP
                refine lv_iinc (v := nI (j + 1)) (lv' := [(2, .int (nI (j + 1))), (0, .ref (gA g 53)), (1, .int (nI q))]) C.1.1 C.1.2.1 dX6_dayGoes_297 hl (k := 2) rfl (nI_1 j) (by decide) rfl (fun ls hl => ?_)
                refine lv_goto (tgt := 281) C.1.1 C.1.2.1 dX6_dayGoes_300 (by decide) ?_
                exact ih_281 (j + 1) (by omega) (by omega) _ _ _ (by rw [← clrM_s, ← hd_8]; exact hP) hS (lv_sub hl [1, 2, 0] rfl)
          exact lp_281 (12 + 1) 0 (Nat.zero_le _) (by omega) _ _ _ (by rw [clrM_0]; exact hP) hS (lv_sub hl [1, 2, 0] rfl)
      · rw [show (nI N ≤ nI i) = (N ≤ i) from propext (nI_leI (a := N) (b := i) (by omega) (by omega))] at c_2
        refine lv_aload_n C.1.1 C.1.2.1 dX6_dayGoes_52 rfl (lv_at hl 0 rfl) ?_
        refine lv_iload_n C.1.1 C.1.2.1 dX6_dayGoes_53 rfl (lv_at hl 2 rfl) ?_
        refine a_B hS (run_V C hP hS hl.1 53 6 (Nat.lt_of_lt_of_le (by decide) hn) rfl (by decide) rfl [.int (nI i)] (kX6_isAway l g n (upw v 54 dd) i (by omega)) gX6_dayGoes_X6_isAway rfl hdX6_isAway rfl ⟨rfl, rfl⟩ ⟨Nat.le_of_ble_eq_true rfl, Nat.le_of_ble_eq_true rfl⟩ rfl [] rfl (Nat.le_of_ble_eq_true rfl) dX6_dayGoes_54 ⟨Nat.zero_le _, Nat.zero_le _⟩) (fun b_9 H locs hP hS => ?_) (fun b_9 H locs hP hS => ?_)
        · skip
          try simp only [upw_same] at b_9
          refine lv_if_eq (tgt := 63) C.1.1 C.1.2.1 dX6_dayGoes_57 (by decide) (fun c_10 => absurd c_10 (by decide)) (fun _ => ?_)
          refine lv_goto (tgt := 234) C.1.1 C.1.2.1 dX6_dayGoes_60 (by decide) ?_
          refine lv_iinc (v := nI (i + 1)) (lv' := [(2, .int (nI (i + 1))), (0, .ref (gA g 53)), (1, .int (nI q))]) C.1.1 C.1.2.1 dX6_dayGoes_234 hl (k := 2) rfl (nI_1 i) (by decide) rfl (fun ls hl => ?_)
          refine lv_goto (tgt := 42) C.1.1 C.1.2.1 dX6_dayGoes_237 (by decide) ?_
          exact ih_42 (i + 1) (by omega) (by omega) _ _ _ (by have e9 : lpM d_1 q (i + 1) = dd := (by show stepM (lpM d_1 q i) q i = dd; rw [← hdd]; unfold stepM; rw [if_pos b_9]); rw [e9]; exact hP) hS (lv_sub hl [1, 2, 0] rfl)
        · skip
          try simp only [upw_same] at b_9
          refine lv_if_eq (tgt := 63) C.1.1 C.1.2.1 dX6_dayGoes_57 (by decide) (fun _ => ?_) (fun c_11 => absurd c_11 (by decide))
          refine lv_aload_n C.1.1 C.1.2.1 dX6_dayGoes_63 rfl (lv_at hl 0 rfl) ?_
          refine lv_iload_n C.1.1 C.1.2.1 dX6_dayGoes_64 rfl (lv_at hl 2 rfl) ?_
          refine lv_iload_n C.1.1 C.1.2.1 dX6_dayGoes_65 rfl (lv_at hl 1 rfl) ?_
          refine a_B hS (run_V C hP hS hl.1 53 6 (Nat.lt_of_lt_of_le (by decide) hn) rfl (by decide) rfl [.int (nI i), .int (nI q)] (kX6_isComing l g n (upw v 54 dd) i (nI q) (by omega)) gX6_dayGoes_X6_isComing rfl hdX6_isComing rfl ⟨rfl, rfl⟩ ⟨Nat.le_of_ble_eq_true rfl, Nat.le_of_ble_eq_true rfl⟩ rfl [] rfl (Nat.le_of_ble_eq_true rfl) dX6_dayGoes_66 ⟨Nat.zero_le _, Nat.zero_le _⟩) (fun b_12 H locs hP hS => ?_) (fun b_12 H locs hP hS => ?_)
          · skip
            try simp only [upw_same] at b_12
            refine lv_if_eq (tgt := 149) C.1.1 C.1.2.1 dX6_dayGoes_69 (by decide) (fun c_13 => absurd c_13 (by decide)) (fun _ => ?_)
            refine lv_aload_n C.1.1 C.1.2.1 dX6_dayGoes_72 rfl (lv_at hl 0 rfl) ?_
            refine lv_iload_n C.1.1 C.1.2.1 dX6_dayGoes_73 rfl (lv_at hl 2 rfl) ?_
            refine lv_iconst (v := 3) C.1.1 C.1.2.1 dX6_dayGoes_74 rfl ?_
            refine a_F hS (run_V C hP hS hl.1 53 6 (Nat.lt_of_lt_of_le (by decide) hn) rfl (by decide) rfl [.int (nI i), .int 3] (kX6_its l g n (upw v 54 dd) i 3 (by omega) (by omega)) gX6_dayGoes_X6_its rfl hdX6_its rfl ⟨rfl, rfl⟩ ⟨Nat.le_of_ble_eq_true rfl, Nat.le_of_ble_eq_true rfl⟩ rfl [] rfl (Nat.le_of_ble_eq_true rfl) dX6_dayGoes_75 ⟨Nat.zero_le _, Nat.zero_le _⟩) (fun H locs hP hS => ?_)
            refine lv_topE (rowM dd i 3) rfl ?_
            refine lv_aload_n C.1.1 C.1.2.1 dX6_dayGoes_78 rfl (lv_at hl 0 rfl) ?_
            refine lv_iload_n C.1.1 C.1.2.1 dX6_dayGoes_79 rfl (lv_at hl 2 rfl) ?_
            refine a_F hS (run_V C hP hS hl.1 53 6 (Nat.lt_of_lt_of_le (by decide) hn) rfl (by decide) rfl [.int (nI i)] (kX6_loses l g n (upw v 54 dd) i (by omega)) gX6_dayGoes_X6_loses rfl hdX6_loses rfl ⟨rfl, rfl⟩ ⟨Nat.le_of_ble_eq_true rfl, Nat.le_of_ble_eq_true rfl⟩ rfl [.int (rowM dd i 3)] rfl (Nat.le_of_ble_eq_true rfl) dX6_dayGoes_80 ⟨Nat.zero_le _, Nat.zero_le _⟩) (fun H locs hP hS => ?_)
            refine lv_topE (loseF (rowM dd i)) rfl ?_
            refine lv_isub C.1.1 C.1.2.1 dX6_dayGoes_83 ?_
            refine lv_istore_n (lv' := [(3, .int ((rowM dd i 3) - (loseF (rowM dd i)))), (0, .ref (gA g 53)), (1, .int (nI q)), (2, .int (nI i))]) C.1.1 C.1.2.1 dX6_dayGoes_84 rfl hl (by decide) rfl (fun ls hl => ?_)
            refine lv_aload_n C.1.1 C.1.2.1 dX6_dayGoes_85 rfl (lv_at hl 1 rfl) ?_
            refine lv_iload_n C.1.1 C.1.2.1 dX6_dayGoes_86 rfl (lv_at hl 3 rfl) ?_
            refine lv_iconst (v := 4) C.1.1 C.1.2.1 dX6_dayGoes_87 rfl ?_
            refine lv_aload_n C.1.1 C.1.2.1 dX6_dayGoes_88 rfl (lv_at hl 1 rfl) ?_
            refine lv_iload_n C.1.1 C.1.2.1 dX6_dayGoes_89 rfl (lv_at hl 3 rfl) ?_
            refine lv_iconst (v := 4) C.1.1 C.1.2.1 dX6_dayGoes_90 rfl ?_
            refine a_F hS (run_V C hP hS hl.1 53 6 (Nat.lt_of_lt_of_le (by decide) hn) rfl (by decide) rfl [.int (nI i), .int 4] (kX6_its l g n (upw v 54 dd) i 4 (by omega) (by omega)) gX6_dayGoes_X6_its rfl hdX6_its rfl ⟨rfl, rfl⟩ ⟨Nat.le_of_ble_eq_true rfl, Nat.le_of_ble_eq_true rfl⟩ rfl [.int 4, .int (nI i), .ref (gA g 53)] rfl (Nat.le_of_ble_eq_true rfl) dX6_dayGoes_91 ⟨Nat.zero_le _, Nat.zero_le _⟩) (fun H locs hP hS => ?_)
            refine lv_topE (rowM dd i 4) rfl ?_
            refine lv_iconst (v := 1) C.1.1 C.1.2.1 dX6_dayGoes_94 rfl ?_
            refine lv_iadd C.1.1 C.1.2.1 dX6_dayGoes_95 ?_
            refine lv_iconst (v := 0) C.1.1 C.1.2.1 dX6_dayGoes_96 rfl ?_
            refine lv_sipush (v := 9999) C.1.1 C.1.2.1 dX6_dayGoes_97 rfl ?_
            refine a_F hS (run_S C hP hS hl.1 [.int ((rowM dd i 4) + 1), .int 0, .int 9999] (kX6_held l g n (upw v 54 dd) ((rowM dd i 4) + 1) 0 9999) gX6_dayGoes_X6_held hdX6_held rfl ⟨rfl, rfl⟩ ⟨Nat.le_of_ble_eq_true rfl, Nat.le_of_ble_eq_true rfl⟩ rfl [.int 4, .int (nI i), .ref (gA g 53)] rfl (Nat.le_of_ble_eq_true rfl) dX6_dayGoes_100 ⟨Nat.zero_le _, Nat.zero_le _⟩) (fun H locs hP hS => ?_)
            refine a_G hS (run_V C hP hS hl.1 53 6 (Nat.lt_of_lt_of_le (by decide) hn) rfl (by decide) rfl [.int (nI i), .int 4, .int (heldF ((rowM dd i 4) + 1) 0 9999)] (kX6_sets l g n (upw v 54 dd) i 4 (heldF ((rowM dd i 4) + 1) 0 9999) (by omega) (by omega)) gX6_dayGoes_X6_sets rfl hdX6_sets rfl ⟨rfl, rfl⟩ ⟨Nat.le_of_ble_eq_true rfl, Nat.le_of_ble_eq_true rfl⟩ rfl [] rfl (Nat.le_of_ble_eq_true rfl) dX6_dayGoes_103 ⟨Nat.zero_le _, Nat.zero_le _⟩) (fun H locs hP hS => ?_)
            obtain ⟨d_14, hd_14⟩ : ∃ zz, zz = upd dd (25 + 8 * 4 + i) (heldF ((rowM dd i 4) + 1) 0 9999) := ⟨_, rfl⟩
            rw [show up (upw v 54 dd) 54 (25 + 8 * 4 + i) (heldF ((rowM dd i 4) + 1) 0 9999) = upw v 54 d_14 from by rw [hd_14]; exact upw_up _ _ _ _ _] at hP
            refine lv_aload_n C.1.1 C.1.2.1 dX6_dayGoes_106 rfl (lv_at hl 1 rfl) ?_
            refine r_get C hP 53 6 (Nat.lt_of_lt_of_le (by decide) hn) rfl (by decide) rfl hi6 0 (by decide) (List.mem_of_getElem? (i := 1) rfl) rfl (val := .ref (gA g 54)) rfl dX6_dayGoes_107 ?_
            refine lv_bipush (v := 13) C.1.1 C.1.2.1 dX6_dayGoes_110 rfl ?_
            refine lv_iload_n C.1.1 C.1.2.1 dX6_dayGoes_112 rfl (lv_at hl 2 rfl) ?_
            refine lv_iadd C.1.1 C.1.2.1 dX6_dayGoes_113 ?_
            refine lv_topE (nI (13 + q)) (nI_add 13 q) ?_
            refine lv_aload_n C.1.1 C.1.2.1 dX6_dayGoes_114 rfl (lv_at hl 1 rfl) ?_
            refine r_get C hP 53 6 (Nat.lt_of_lt_of_le (by decide) hn) rfl (by decide) rfl hi6 0 (by decide) (List.mem_of_getElem? (i := 1) rfl) rfl (val := .ref (gA g 54)) rfl dX6_dayGoes_115 ?_
            refine lv_bipush (v := 13) C.1.1 C.1.2.1 dX6_dayGoes_118 rfl ?_
            refine lv_iload_n C.1.1 C.1.2.1 dX6_dayGoes_120 rfl (lv_at hl 2 rfl) ?_
            refine lv_iadd C.1.1 C.1.2.1 dX6_dayGoes_121 ?_
            refine lv_topE (nI (13 + q)) (nI_add 13 q) ?_
            refine r_iald C hP 54 (Nat.lt_of_lt_of_le (by decide) hn) rfl (13 + q) rfl (N := 83) rfl (by decide) (by omega) dX6_dayGoes_122 ?_
            refine lv_topE (d_14 (13 + q)) rfl ?_
            refine lv_iconst (v := 1) C.1.1 C.1.2.1 dX6_dayGoes_123 rfl ?_
            refine lv_iadd C.1.1 C.1.2.1 dX6_dayGoes_124 ?_
            refine lv_iconst (v := 0) C.1.1 C.1.2.1 dX6_dayGoes_125 rfl ?_
            refine lv_sipush (v := 999) C.1.1 C.1.2.1 dX6_dayGoes_126 rfl ?_
            refine a_F hS (run_S C hP hS hl.1 [.int ((d_14 (13 + q)) + 1), .int 0, .int 999] (kX6_held l g n (upw v 54 d_14) ((d_14 (13 + q)) + 1) 0 999) gX6_dayGoes_X6_held hdX6_held rfl ⟨rfl, rfl⟩ ⟨Nat.le_of_ble_eq_true rfl, Nat.le_of_ble_eq_true rfl⟩ rfl [.int (nI (13 + q)), .ref (gA g 54)] rfl (Nat.le_of_ble_eq_true rfl) dX6_dayGoes_129 ⟨Nat.zero_le _, Nat.zero_le _⟩) (fun H locs hP hS => ?_)
            refine r_iast C hP hS 54 (Nat.lt_of_lt_of_le (by decide) hn) rfl (13 + q) rfl (N := 83) rfl (by decide) (by omega) dX6_dayGoes_132 (fun H locs hP hS => ?_)
            obtain ⟨d_15, hd_15⟩ : ∃ zz, zz = upd d_14 (13 + q) (heldF ((d_14 (13 + q)) + 1) 0 999) := ⟨_, rfl⟩
            rw [show up (upw v 54 d_14) 54 (13 + q) (heldF ((d_14 (13 + q)) + 1) 0 999) = upw v 54 d_15 from by rw [hd_15]; exact upw_up _ _ _ _ _] at hP
            refine lv_aload_n C.1.1 C.1.2.1 dX6_dayGoes_133 rfl (lv_at hl 1 rfl) ?_
            refine lv_iload_n C.1.1 C.1.2.1 dX6_dayGoes_134 rfl (lv_at hl 3 rfl) ?_
            refine lv_iconst (v := 3) C.1.1 C.1.2.1 dX6_dayGoes_135 rfl ?_
            refine lv_iload_n C.1.1 C.1.2.1 dX6_dayGoes_136 rfl (lv_at hl 0 rfl) ?_
            refine lv_iconst (v := 0) C.1.1 C.1.2.1 dX6_dayGoes_137 rfl ?_
            refine lv_bipush (v := 99) C.1.1 C.1.2.1 dX6_dayGoes_138 rfl ?_
            refine a_F hS (run_S C hP hS hl.1 [.int ((rowM dd i 3) - (loseF (rowM dd i))), .int 0, .int 99] (kX6_held l g n (upw v 54 d_15) ((rowM dd i 3) - (loseF (rowM dd i))) 0 99) gX6_dayGoes_X6_held hdX6_held rfl ⟨rfl, rfl⟩ ⟨Nat.le_of_ble_eq_true rfl, Nat.le_of_ble_eq_true rfl⟩ rfl [.int 3, .int (nI i), .ref (gA g 53)] rfl (Nat.le_of_ble_eq_true rfl) dX6_dayGoes_140 ⟨Nat.zero_le _, Nat.zero_le _⟩) (fun H locs hP hS => ?_)
            refine a_G hS (run_V C hP hS hl.1 53 6 (Nat.lt_of_lt_of_le (by decide) hn) rfl (by decide) rfl [.int (nI i), .int 3, .int (heldF ((rowM dd i 3) - (loseF (rowM dd i))) 0 99)] (kX6_sets l g n (upw v 54 d_15) i 3 (heldF ((rowM dd i 3) - (loseF (rowM dd i))) 0 99) (by omega) (by omega)) gX6_dayGoes_X6_sets rfl hdX6_sets rfl ⟨rfl, rfl⟩ ⟨Nat.le_of_ble_eq_true rfl, Nat.le_of_ble_eq_true rfl⟩ rfl [] rfl (Nat.le_of_ble_eq_true rfl) dX6_dayGoes_143 ⟨Nat.zero_le _, Nat.zero_le _⟩) (fun H locs hP hS => ?_)
            obtain ⟨d_16, hd_16⟩ : ∃ zz, zz = upd d_15 (25 + 8 * 3 + i) (heldF ((rowM dd i 3) - (loseF (rowM dd i))) 0 99) := ⟨_, rfl⟩
            rw [show up (upw v 54 d_15) 54 (25 + 8 * 3 + i) (heldF ((rowM dd i 3) - (loseF (rowM dd i))) 0 99) = upw v 54 d_16 from by rw [hd_16]; exact upw_up _ _ _ _ _] at hP
            refine lv_goto (tgt := 234) C.1.1 C.1.2.1 dX6_dayGoes_146 (by decide) ?_
            refine lv_iinc (v := nI (i + 1)) (lv' := [(2, .int (nI (i + 1))), (3, .int ((rowM dd i 3) - (loseF (rowM dd i)))), (0, .ref (gA g 53)), (1, .int (nI q))]) C.1.1 C.1.2.1 dX6_dayGoes_234 hl (k := 3) rfl (nI_1 i) (by decide) rfl (fun ls hl => ?_)
            refine lv_goto (tgt := 42) C.1.1 C.1.2.1 dX6_dayGoes_237 (by decide) ?_
            exact ih_42 (i + 1) (by omega) (by omega) _ _ _ (by have e9 : lpM d_1 q (i + 1) = d_16 := (by show stepM (lpM d_1 q i) q i = d_16; rw [← hdd]; subst hd_16 hd_15 hd_14; unfold stepM; first | (rw [if_neg b_9, if_pos b_12]; done) | (rw [if_neg b_9, if_neg b_12]; done)); rw [e9]; exact hP) hS (lv_sub hl [2, 3, 0] rfl)
          · skip
            try simp only [upw_same] at b_12
            refine lv_if_eq (tgt := 149) C.1.1 C.1.2.1 dX6_dayGoes_69 (by decide) (fun _ => ?_) (fun c_17 => absurd c_17 (by decide))
            have jn_18 : ∀ (H : Heap) (locs : List Loc) (ls : Array Slot), va_P g.1 vwCl (wl g n (upw v 54 dd)) H → va_S (wA g n) s.heap H locs → lv_has ls 4 [(0, .ref (gA g 53)), (1, .int (nI q)), (2, .int (nI i))] → W p l e rmX6_dayGoes s m args below meth c H locs 0 0 (MQ below (QG g n (upw v 54 (dayM (v.1 54)))) args s 0 0 (wA g n)) (F0 m 185 ls [.int (if luredM dd i (nI q) then 1 else 0)]) := by
              clear hP hS hl
              intro H locs ls hP hS hl
              refine lv_istore_n (lv' := [(3, .int (if luredM dd i (nI q) then 1 else 0)), (0, .ref (gA g 53)), (1, .int (nI q)), (2, .int (nI i))]) C.1.1 C.1.2.1 dX6_dayGoes_185 rfl hl (by decide) rfl (fun ls hl => ?_)
              refine lv_aload_n C.1.1 C.1.2.1 dX6_dayGoes_186 rfl (lv_at hl 1 rfl) ?_
              refine lv_iload_n C.1.1 C.1.2.1 dX6_dayGoes_187 rfl (lv_at hl 3 rfl) ?_
              refine lv_iconst (v := 2) C.1.1 C.1.2.1 dX6_dayGoes_188 rfl ?_
              refine lv_aload_n C.1.1 C.1.2.1 dX6_dayGoes_189 rfl (lv_at hl 1 rfl) ?_
              refine lv_iload_n C.1.1 C.1.2.1 dX6_dayGoes_190 rfl (lv_at hl 3 rfl) ?_
              refine lv_iconst (v := 2) C.1.1 C.1.2.1 dX6_dayGoes_191 rfl ?_
              refine a_F hS (run_V C hP hS hl.1 53 6 (Nat.lt_of_lt_of_le (by decide) hn) rfl (by decide) rfl [.int (nI i), .int 2] (kX6_its l g n (upw v 54 dd) i 2 (by omega) (by omega)) gX6_dayGoes_X6_its rfl hdX6_its rfl ⟨rfl, rfl⟩ ⟨Nat.le_of_ble_eq_true rfl, Nat.le_of_ble_eq_true rfl⟩ rfl [.int 2, .int (nI i), .ref (gA g 53)] rfl (Nat.le_of_ble_eq_true rfl) dX6_dayGoes_192 ⟨Nat.zero_le _, Nat.zero_le _⟩) (fun H locs hP hS => ?_)
              refine lv_topE (rowM dd i 2) rfl ?_
              refine lv_iload_n C.1.1 C.1.2.1 dX6_dayGoes_195 rfl (lv_at hl 0 rfl) ?_
              have jn_19 : ∀ (H : Heap) (locs : List Loc) (ls : Array Slot), va_P g.1 vwCl (wl g n (upw v 54 dd)) H → va_S (wA g n) s.heap H locs → lv_has ls 4 [(3, .int (if luredM dd i (nI q) then 1 else 0)), (0, .ref (gA g 53)), (1, .int (nI q)), (2, .int (nI i))] → W p l e rmX6_dayGoes s m args below meth c H locs 0 0 (MQ below (QG g n (upw v 54 (dayM (v.1 54)))) args s 0 0 (wA g n)) (F0 m 206 ls [.int (if luredM dd i (nI q) then 1 <<< (nI q &&& 31) else 0), .int (rowM dd i 2), .int 2, .int (nI i), .ref (gA g 53)]) := by
                clear hP hS hl
                intro H locs ls hP hS hl
                refine lv_ior C.1.1 C.1.2.1 dX6_dayGoes_206 ?_
                refine a_G hS (run_V C hP hS hl.1 53 6 (Nat.lt_of_lt_of_le (by decide) hn) rfl (by decide) rfl [.int (nI i), .int 2, .int ((rowM dd i 2) ||| (if luredM dd i (nI q) then 1 <<< (nI q &&& 31) else 0))] (kX6_sets l g n (upw v 54 dd) i 2 ((rowM dd i 2) ||| (if luredM dd i (nI q) then 1 <<< (nI q &&& 31) else 0)) (by omega) (by omega)) gX6_dayGoes_X6_sets rfl hdX6_sets rfl ⟨rfl, rfl⟩ ⟨Nat.le_of_ble_eq_true rfl, Nat.le_of_ble_eq_true rfl⟩ rfl [] rfl (Nat.le_of_ble_eq_true rfl) dX6_dayGoes_207 ⟨Nat.zero_le _, Nat.zero_le _⟩) (fun H locs hP hS => ?_)
                obtain ⟨d_20, hd_20⟩ : ∃ zz, zz = upd dd (25 + 8 * 2 + i) ((rowM dd i 2) ||| (if luredM dd i (nI q) then 1 <<< (nI q &&& 31) else 0)) := ⟨_, rfl⟩
                rw [show up (upw v 54 dd) 54 (25 + 8 * 2 + i) ((rowM dd i 2) ||| (if luredM dd i (nI q) then 1 <<< (nI q &&& 31) else 0)) = upw v 54 d_20 from by rw [hd_20]; exact upw_up _ _ _ _ _] at hP
                refine lv_aload_n C.1.1 C.1.2.1 dX6_dayGoes_210 rfl (lv_at hl 1 rfl) ?_
                refine lv_iload_n C.1.1 C.1.2.1 dX6_dayGoes_211 rfl (lv_at hl 3 rfl) ?_
                refine lv_iconst (v := 3) C.1.1 C.1.2.1 dX6_dayGoes_212 rfl ?_
                refine lv_aload_n C.1.1 C.1.2.1 dX6_dayGoes_213 rfl (lv_at hl 1 rfl) ?_
                refine lv_iload_n C.1.1 C.1.2.1 dX6_dayGoes_214 rfl (lv_at hl 3 rfl) ?_
                refine lv_iconst (v := 3) C.1.1 C.1.2.1 dX6_dayGoes_215 rfl ?_
                refine a_F hS (run_V C hP hS hl.1 53 6 (Nat.lt_of_lt_of_le (by decide) hn) rfl (by decide) rfl [.int (nI i), .int 3] (kX6_its l g n (upw v 54 d_20) i 3 (by omega) (by omega)) gX6_dayGoes_X6_its rfl hdX6_its rfl ⟨rfl, rfl⟩ ⟨Nat.le_of_ble_eq_true rfl, Nat.le_of_ble_eq_true rfl⟩ rfl [.int 3, .int (nI i), .ref (gA g 53)] rfl (Nat.le_of_ble_eq_true rfl) dX6_dayGoes_216 ⟨Nat.zero_le _, Nat.zero_le _⟩) (fun H locs hP hS => ?_)
                refine lv_topE (rowM d_20 i 3) rfl ?_
                refine lv_aload_n C.1.1 C.1.2.1 dX6_dayGoes_219 rfl (lv_at hl 1 rfl) ?_
                refine lv_iload_n C.1.1 C.1.2.1 dX6_dayGoes_220 rfl (lv_at hl 3 rfl) ?_
                refine a_F hS (run_V C hP hS hl.1 53 6 (Nat.lt_of_lt_of_le (by decide) hn) rfl (by decide) rfl [.int (nI i)] (kX6_mends l g n (upw v 54 d_20) i (by omega)) gX6_dayGoes_X6_mends rfl hdX6_mends rfl ⟨rfl, rfl⟩ ⟨Nat.le_of_ble_eq_true rfl, Nat.le_of_ble_eq_true rfl⟩ rfl [.int (rowM d_20 i 3), .int 3, .int (nI i), .ref (gA g 53)] rfl (Nat.le_of_ble_eq_true rfl) dX6_dayGoes_221 ⟨Nat.zero_le _, Nat.zero_le _⟩) (fun H locs hP hS => ?_)
                refine lv_topE (mendF (rowM d_20 i)) rfl ?_
                refine lv_iadd C.1.1 C.1.2.1 dX6_dayGoes_224 ?_
                refine lv_iconst (v := 0) C.1.1 C.1.2.1 dX6_dayGoes_225 rfl ?_
                refine lv_bipush (v := 99) C.1.1 C.1.2.1 dX6_dayGoes_226 rfl ?_
                refine a_F hS (run_S C hP hS hl.1 [.int ((rowM d_20 i 3) + (mendF (rowM d_20 i))), .int 0, .int 99] (kX6_held l g n (upw v 54 d_20) ((rowM d_20 i 3) + (mendF (rowM d_20 i))) 0 99) gX6_dayGoes_X6_held hdX6_held rfl ⟨rfl, rfl⟩ ⟨Nat.le_of_ble_eq_true rfl, Nat.le_of_ble_eq_true rfl⟩ rfl [.int 3, .int (nI i), .ref (gA g 53)] rfl (Nat.le_of_ble_eq_true rfl) dX6_dayGoes_228 ⟨Nat.zero_le _, Nat.zero_le _⟩) (fun H locs hP hS => ?_)
                refine a_G hS (run_V C hP hS hl.1 53 6 (Nat.lt_of_lt_of_le (by decide) hn) rfl (by decide) rfl [.int (nI i), .int 3, .int (heldF ((rowM d_20 i 3) + (mendF (rowM d_20 i))) 0 99)] (kX6_sets l g n (upw v 54 d_20) i 3 (heldF ((rowM d_20 i 3) + (mendF (rowM d_20 i))) 0 99) (by omega) (by omega)) gX6_dayGoes_X6_sets rfl hdX6_sets rfl ⟨rfl, rfl⟩ ⟨Nat.le_of_ble_eq_true rfl, Nat.le_of_ble_eq_true rfl⟩ rfl [] rfl (Nat.le_of_ble_eq_true rfl) dX6_dayGoes_231 ⟨Nat.zero_le _, Nat.zero_le _⟩) (fun H locs hP hS => ?_)
                obtain ⟨d_21, hd_21⟩ : ∃ zz, zz = upd d_20 (25 + 8 * 3 + i) (heldF ((rowM d_20 i 3) + (mendF (rowM d_20 i))) 0 99) := ⟨_, rfl⟩
                rw [show up (upw v 54 d_20) 54 (25 + 8 * 3 + i) (heldF ((rowM d_20 i 3) + (mendF (rowM d_20 i))) 0 99) = upw v 54 d_21 from by rw [hd_21]; exact upw_up _ _ _ _ _] at hP
                refine lv_iinc (v := nI (i + 1)) (lv' := [(2, .int (nI (i + 1))), (3, .int (if luredM dd i (nI q) then 1 else 0)), (0, .ref (gA g 53)), (1, .int (nI q))]) C.1.1 C.1.2.1 dX6_dayGoes_234 hl (k := 3) rfl (nI_1 i) (by decide) rfl (fun ls hl => ?_)
                refine lv_goto (tgt := 42) C.1.1 C.1.2.1 dX6_dayGoes_237 (by decide) ?_
                exact ih_42 (i + 1) (by omega) (by omega) _ _ _ (by have e9 : lpM d_1 q (i + 1) = d_21 := (by show stepM (lpM d_1 q i) q i = d_21; rw [← hdd]; subst hd_21 hd_20; unfold stepM; first | (rw [if_neg b_9, if_pos b_12]; done) | (rw [if_neg b_9, if_neg b_12]; done)); rw [e9]; exact hP) hS (lv_sub hl [2, 3, 0] rfl)
              refine lv_if_eq (tgt := 205) C.1.1 C.1.2.1 dX6_dayGoes_196 (by decide) (fun c_22 => ?_) (fun c_22 => ?_)
              · skip
                refine lv_iconst (v := 0) C.1.1 C.1.2.1 dX6_dayGoes_205 rfl ?_
                exact lv_topE (if luredM dd i (nI q) then 1 <<< (nI q &&& 31) else 0) (by rw [if_neg (fun h9 => absurd c_22 (by rw [if_pos h9]; decide))]) (jn_19 _ _ _ hP hS (lv_sub hl [0, 1, 2, 3] rfl))
              · skip
                refine lv_iconst (v := 1) C.1.1 C.1.2.1 dX6_dayGoes_199 rfl ?_
                refine lv_iload_n C.1.1 C.1.2.1 dX6_dayGoes_200 rfl (lv_at hl 2 rfl) ?_
                refine lv_ishl C.1.1 C.1.2.1 dX6_dayGoes_201 ?_
                refine lv_goto (tgt := 206) C.1.1 C.1.2.1 dX6_dayGoes_202 (by decide) ?_
                exact lv_topE (if luredM dd i (nI q) then 1 <<< (nI q &&& 31) else 0) (by rw [if_pos (Classical.byContradiction (fun h9 => c_22 (if_neg h9)))]) (jn_19 _ _ _ hP hS (lv_sub hl [0, 1, 2, 3] rfl))
            refine lv_aload_n C.1.1 C.1.2.1 dX6_dayGoes_149 rfl (lv_at hl 0 rfl) ?_
            refine lv_iload_n C.1.1 C.1.2.1 dX6_dayGoes_150 rfl (lv_at hl 2 rfl) ?_
            refine a_F hS (run_V C hP hS hl.1 53 6 (Nat.lt_of_lt_of_le (by decide) hn) rfl (by decide) rfl [.int (nI i)] (kX6_far l g n (upw v 54 dd) i (by omega)) gX6_dayGoes_X6_far rfl hdX6_far rfl ⟨rfl, rfl⟩ ⟨Nat.le_of_ble_eq_true rfl, Nat.le_of_ble_eq_true rfl⟩ rfl [] rfl (Nat.le_of_ble_eq_true rfl) dX6_dayGoes_151 ⟨Nat.zero_le _, Nat.zero_le _⟩) (fun H locs hP hS => ?_)
            refine lv_topE (sizeF ((rowM dd i) 1 - dd 3)) rfl ?_
            refine lv_aload_n C.1.1 C.1.2.1 dX6_dayGoes_154 rfl (lv_at hl 0 rfl) ?_
            refine lv_iload_n C.1.1 C.1.2.1 dX6_dayGoes_155 rfl (lv_at hl 2 rfl) ?_
            refine a_F hS (run_V C hP hS hl.1 53 6 (Nat.lt_of_lt_of_le (by decide) hn) rfl (by decide) rfl [.int (nI i)] (kX6_hears l g n (upw v 54 dd) i (by omega)) gX6_dayGoes_X6_hears rfl hdX6_hears rfl ⟨rfl, rfl⟩ ⟨Nat.le_of_ble_eq_true rfl, Nat.le_of_ble_eq_true rfl⟩ rfl [.int (sizeF ((rowM dd i) 1 - dd 3))] rfl (Nat.le_of_ble_eq_true rfl) dX6_dayGoes_156 ⟨Nat.zero_le _, Nat.zero_le _⟩) (fun H locs hP hS => ?_)
            refine lv_topE (hearF (rowM dd i) (dd 5)) rfl ?_
            refine lv_icmp_gt (tgt := 184) C.1.1 C.1.2.1 dX6_dayGoes_159 (by decide) (fun c_23 => ?_) (fun c_23 => ?_)
            · skip
              refine lv_iconst (v := 0) C.1.1 C.1.2.1 dX6_dayGoes_184 rfl ?_
              exact lv_topE (if luredM dd i (nI q) then 1 else 0) (by rw [if_neg (by first | exact fun h => absurd h.1 (fa_lt_nle (by assumption)) | exact fun h => h.2.1 (by assumption) | exact fun h => absurd h.2.2 (by assumption))]) (jn_18 _ _ _ hP hS (lv_sub hl [0, 1, 2] rfl))
            · skip
              refine lv_aload_n C.1.1 C.1.2.1 dX6_dayGoes_162 rfl (lv_at hl 0 rfl) ?_
              refine lv_iload_n C.1.1 C.1.2.1 dX6_dayGoes_163 rfl (lv_at hl 2 rfl) ?_
              refine lv_iload_n C.1.1 C.1.2.1 dX6_dayGoes_164 rfl (lv_at hl 1 rfl) ?_
              refine a_B hS (run_V C hP hS hl.1 53 6 (Nat.lt_of_lt_of_le (by decide) hn) rfl (by decide) rfl [.int (nI i), .int (nI q)] (kX6_isWanting l g n (upw v 54 dd) i (nI q) (by omega)) gX6_dayGoes_X6_isWanting rfl hdX6_isWanting rfl ⟨rfl, rfl⟩ ⟨Nat.le_of_ble_eq_true rfl, Nat.le_of_ble_eq_true rfl⟩ rfl [] rfl (Nat.le_of_ble_eq_true rfl) dX6_dayGoes_165 ⟨Nat.zero_le _, Nat.zero_le _⟩) (fun b_24 H locs hP hS => ?_) (fun b_24 H locs hP hS => ?_)
              · skip
                try simp only [upw_same] at b_24
                refine lv_if_ne (tgt := 184) C.1.1 C.1.2.1 dX6_dayGoes_168 (by decide) (fun _ => ?_) (fun c_25 => absurd c_25 (by decide))
                refine lv_iconst (v := 0) C.1.1 C.1.2.1 dX6_dayGoes_184 rfl ?_
                exact lv_topE (if luredM dd i (nI q) then 1 else 0) (by rw [if_neg (by first | exact fun h => absurd h.1 (fa_lt_nle (by assumption)) | exact fun h => h.2.1 (by assumption) | exact fun h => absurd h.2.2 (by assumption))]) (jn_18 _ _ _ hP hS (lv_sub hl [0, 1, 2] rfl))
              · skip
                try simp only [upw_same] at b_24
                refine lv_if_ne (tgt := 184) C.1.1 C.1.2.1 dX6_dayGoes_168 (by decide) (fun c_26 => absurd c_26 (by decide)) (fun _ => ?_)
                refine lv_aload_n C.1.1 C.1.2.1 dX6_dayGoes_171 rfl (lv_at hl 0 rfl) ?_
                refine lv_iload_n C.1.1 C.1.2.1 dX6_dayGoes_172 rfl (lv_at hl 2 rfl) ?_
                refine lv_iload_n C.1.1 C.1.2.1 dX6_dayGoes_173 rfl (lv_at hl 1 rfl) ?_
                refine a_B hS (run_V C hP hS hl.1 53 6 (Nat.lt_of_lt_of_le (by decide) hn) rfl (by decide) rfl [.int (nI i), .int (nI q)] (kX6_isTempted l g n (upw v 54 dd) i (nI q) (by omega)) gX6_dayGoes_X6_isTempted rfl hdX6_isTempted rfl ⟨rfl, rfl⟩ ⟨Nat.le_of_ble_eq_true rfl, Nat.le_of_ble_eq_true rfl⟩ rfl [] rfl (Nat.le_of_ble_eq_true rfl) dX6_dayGoes_174 ⟨Nat.zero_le _, Nat.zero_le _⟩) (fun b_27 H locs hP hS => ?_) (fun b_27 H locs hP hS => ?_)
                · skip
                  try simp only [upw_same] at b_27
                  refine lv_if_eq (tgt := 184) C.1.1 C.1.2.1 dX6_dayGoes_177 (by decide) (fun c_28 => absurd c_28 (by decide)) (fun _ => ?_)
                  refine lv_iconst (v := 1) C.1.1 C.1.2.1 dX6_dayGoes_180 rfl ?_
                  refine lv_goto (tgt := 185) C.1.1 C.1.2.1 dX6_dayGoes_181 (by decide) ?_
                  exact lv_topE (if luredM dd i (nI q) then 1 else 0) (by rw [if_pos ⟨fa_nlt (by assumption), by assumption, by assumption⟩]) (jn_18 _ _ _ hP hS (lv_sub hl [0, 1, 2] rfl))
                · skip
                  try simp only [upw_same] at b_27
                  refine lv_if_eq (tgt := 184) C.1.1 C.1.2.1 dX6_dayGoes_177 (by decide) (fun _ => ?_) (fun c_29 => absurd c_29 (by decide))
                  refine lv_iconst (v := 0) C.1.1 C.1.2.1 dX6_dayGoes_184 rfl ?_
                  exact lv_topE (if luredM dd i (nI q) then 1 else 0) (by rw [if_neg (by first | exact fun h => absurd h.1 (fa_lt_nle (by assumption)) | exact fun h => h.2.1 (by assumption) | exact fun h => absurd h.2.2 (by assumption))]) (jn_18 _ _ _ hP hS (lv_sub hl [0, 1, 2] rfl))
  exact lp_42 (N + 1) 0 (Nat.zero_le _) (by omega) _ _ _ hP hS (lv_sub hl [2, 1, 0] rfl)

abbrev rmX6_daysGo : Room := { frames := 4, cells := 0, slots := 0, locals := 90 }
set_option maxHeartbeats 4000000 in
set_option maxRecDepth 100000 in
theorem kX6_daysGo (l : Launch) (g : GG) (n : Nat) (v : SV) (k N : Nat) (hk : k ≤ 200) (hM : okM (v.1 54) N) : Met l yX6_daysGo wsX6_daysGo rmX6_daysGo (PW g n v [.ref (gA g 53), .int (nI k)]) (QG g n (upw v 54 (daysM (v.1 54) k))) 0 0 (wA g n) := by
  refine Met.begin RX6 rfl (by decide) rfl (Nat.le_of_ble_eq_true rfl) ?_
  intro p e s m args below meth c ls ha C hP hS hl
  have hn : 64 ≤ n := C.2.1.1.2.1
  have hi6 : ∀ w ∈ u_ws RX6 TX6 17, w ∈ wsX6_daysGo := by decide +kernel
  have hl : lv_has ls 3 [(0, .ref (gA g 53)), (1, .int (nI k))] := hl
  refine lv_iconst (v := 0) C.1.1 C.1.2.1 dX6_daysGo_0 rfl ?_
  refine lv_istore_n (lv' := [(2, .int 0), (0, .ref (gA g 53)), (1, .int (nI k))]) C.1.1 C.1.2.1 dX6_daysGo_1 rfl hl (by decide) rfl (fun ls hl => ?_)
  have lp_2 : ∀ (k_2 i : Nat), i ≤ k → k + 1 ≤ i + k_2 → ∀ (H : Heap) (locs : List Loc) (ls : Array Slot), va_P g.1 vwCl (wl g n (upw v 54 (daysM (v.1 54) i))) H → va_S (wA g n) s.heap H locs → lv_has ls 3 [(0, .ref (gA g 53)), (1, .int (nI k)), (2, .int (nI i))] → W p l e rmX6_daysGo s m args below meth c H locs 0 0 (MQ below (QG g n (upw v 54 (daysM (v.1 54) k))) args s 0 0 (wA g n)) (F0 m 2 ls []) := by
    clear hP hS hl
    intro k_2
    induction k_2 with
    | zero => exact fun i h1 h2 => absurd h2 (by omega)
    | succ k_2 ih_2 =>
      intro i hi_2 hk_2 H locs ls hP hS hl
      refine lv_iload_n C.1.1 C.1.2.1 dX6_daysGo_2 rfl (lv_at hl 2 rfl) ?_
      refine lv_iload_n C.1.1 C.1.2.1 dX6_daysGo_3 rfl (lv_at hl 1 rfl) ?_
      refine lv_icmp_ge (tgt := 17) C.1.1 C.1.2.1 dX6_daysGo_4 (by decide) (fun c_1 => ?_) (fun c_1 => ?_)
      · rw [show (nI k ≤ nI i) = (k ≤ i) from propext (nI_leI (a := k) (b := i) (by omega) (by omega))] at c_1
        have hik : i = k := by omega
        exact t_G C rfl hP hS (by rw [hik]) dX6_daysGo_17
      · rw [show (nI k ≤ nI i) = (k ≤ i) from propext (nI_leI (a := k) (b := i) (by omega) (by omega))] at c_1
        refine lv_aload_n C.1.1 C.1.2.1 dX6_daysGo_7 rfl (lv_at hl 0 rfl) ?_
        refine a_G hS (run_V C hP hS hl.1 53 6 (Nat.lt_of_lt_of_le (by decide) hn) rfl (by decide) rfl [] (kX6_dayGoes l g n (upw v 54 (daysM (v.1 54) i)) N (by rw [upw_same]; exact okM_days hM i)) gX6_daysGo_X6_dayGoes rfl hdX6_dayGoes rfl ⟨rfl, rfl⟩ ⟨Nat.le_of_ble_eq_true rfl, Nat.le_of_ble_eq_true rfl⟩ rfl [] rfl (Nat.le_of_ble_eq_true rfl) dX6_daysGo_8 ⟨Nat.zero_le _, Nat.zero_le _⟩) (fun H locs hP hS => ?_)
        obtain ⟨v_2, hv_2⟩ : ∃ zz, zz = upw (upw v 54 (daysM (v.1 54) i)) 54 (dayM ((upw v 54 (daysM (v.1 54) i)).1 54)) := ⟨_, rfl⟩
        rw [← hv_2] at hP
        refine lv_iinc (v := nI (i + 1)) (lv' := [(2, .int (nI (i + 1))), (0, .ref (gA g 53)), (1, .int (nI k))]) C.1.1 C.1.2.1 dX6_daysGo_11 hl (k := 2) rfl (nI_1 i) (by decide) rfl (fun ls hl => ?_)
        refine lv_goto (tgt := 2) C.1.1 C.1.2.1 dX6_daysGo_14 (by decide) ?_
        exact ih_2 (i + 1) (by omega) (by omega) _ _ _ (by rw [hv_2, upw_same, upw_upw] at hP; exact hP) hS (lv_sub hl [1, 2, 0] rfl)
  exact lp_2 (k + 1) 0 (Nat.zero_le _) (by omega) _ _ _ (by rw [show daysM (v.1 54) 0 = v.1 54 from rfl, upw_self]; exact hP) hS (lv_sub hl [1, 2, 0] rfl)

