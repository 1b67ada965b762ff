abbrev rmX6_whyNone : Room := { frames := 2, cells := 0, slots := 0, locals := 45 }
set_option maxHeartbeats 4000000 in
set_option maxRecDepth 100000 in
theorem kX6_whyNone (l : Launch) (g : GG) (n : Nat) (v : SV) (x : Int32) : Met l yX6_whyNone wsX6_whyNone rmX6_whyNone (PW g n v [.ref (gA g 53), .int x]) (QF g n (whyF v x) v) 0 0 (wA g n) := by
  refine Met.begin RX6 rfl (by decide) rfl (Nat.le_of_ble_eq_true rfl) ?_
  intro p e s m args below meth c ls ha C hP hS hl
  have hn : 64 ≤ n := C.2.1.1.2.1
  have hi6 : ∀ w ∈ u_ws RX6 TX6 17, w ∈ wsX6_whyNone := by decide +kernel
  have hl : lv_has ls 2 [(0, .ref (gA g 53)), (1, .int x)] := hl
  refine lv_iload_n C.1.1 C.1.2.1 dX6_whyNone_0 rfl (lv_at hl 1 rfl) ?_
  refine a_B hS (run_S C hP hS hl.1 [.int x] (kX6_isSheet l g n v x) gX6_whyNone_X6_isSheet hdX6_isSheet rfl ⟨rfl, rfl⟩ ⟨Nat.le_of_ble_eq_true rfl, Nat.le_of_ble_eq_true rfl⟩ rfl [] rfl (Nat.le_of_ble_eq_true rfl) dX6_whyNone_1 ⟨Nat.zero_le _, Nat.zero_le _⟩) (fun b_1 H locs hP hS => ?_) (fun b_1 H locs hP hS => ?_)
  · skip
    obtain ⟨jx, hjx, rfl⟩ := b_1
    refine lv_if_ne (tgt := 11) C.1.1 C.1.2.1 dX6_whyNone_4 (by decide) (fun _ => ?_) (fun c_2 => absurd c_2 (by decide))
    refine lv_aload_n C.1.1 C.1.2.1 dX6_whyNone_11 rfl (lv_at hl 0 rfl) ?_
    refine r_get C hP 53 6 (Nat.lt_of_lt_of_le (by decide) hn) rfl (by decide) rfl hi6 13 (by decide) (List.mem_of_getElem? (i := 1) rfl) rfl (val := .ref (gA g 60)) rfl dX6_whyNone_12 ?_
    refine lv_iload_n C.1.1 C.1.2.1 dX6_whyNone_15 rfl (lv_at hl 1 rfl) ?_
    refine r_iald C hP 60 (Nat.lt_of_lt_of_le (by decide) hn) rfl jx rfl (N := 4) rfl (by decide) (by omega) dX6_whyNone_16 ?_
    refine lv_if_ne (tgt := 24) C.1.1 C.1.2.1 dX6_whyNone_17 (by decide) (fun c_3 => ?_) (fun c_3 => ?_)
    · skip
      refine lv_iconst (v := (-1)) C.1.1 C.1.2.1 dX6_whyNone_24 rfl ?_
      exact t_F C rfl hP hS (by rw [whyF, cif_pos ⟨jx, hjx, rfl⟩, tn_nI (show jx < 2 ^ 31 by omega), if_neg c_3]) rfl dX6_whyNone_25
    · skip
      refine lv_iconst (v := 5) C.1.1 C.1.2.1 dX6_whyNone_20 rfl ?_
      refine lv_goto (tgt := 25) C.1.1 C.1.2.1 dX6_whyNone_21 (by decide) ?_
      exact t_F C rfl hP hS (by rw [whyF, cif_pos ⟨jx, hjx, rfl⟩, tn_nI (show jx < 2 ^ 31 by omega), if_pos c_3]) rfl dX6_whyNone_25
  · skip
    refine lv_if_ne (tgt := 11) C.1.1 C.1.2.1 dX6_whyNone_4 (by decide) (fun c_4 => absurd c_4 (by decide)) (fun _ => ?_)
    refine lv_iconst (v := 0) C.1.1 C.1.2.1 dX6_whyNone_7 rfl ?_
    refine lv_goto (tgt := 25) C.1.1 C.1.2.1 dX6_whyNone_8 (by decide) ?_
    exact t_F C rfl hP hS (by rw [whyF, cif_neg b_1]) rfl dX6_whyNone_25

abbrev rmX6_whyNot : Room := { frames := 3, cells := 0, slots := 0, locals := 66 }
set_option maxHeartbeats 4000000 in
set_option maxRecDepth 100000 in
theorem kX6_whyNot (l : Launch) (g : GG) (n : Nat) (v : SV) (x y : Int32) (N : Nat) (hM : okM (v.1 54) N) : Met l yX6_whyNot wsX6_whyNot rmX6_whyNot (PW g n v [.ref (gA g 53), .int x, .int y]) (QF g n (whyN v x y N) v) 0 0 (wA g n) := by
  refine Met.begin RX6 rfl (by decide) rfl (Nat.le_of_ble_eq_true rfl) ?_
  intro p e s m args below meth c ls ha C hP hS hl
  have hn : 64 ≤ n := C.2.1.1.2.1
  have hi6 : ∀ w ∈ u_ws RX6 TX6 17, w ∈ wsX6_whyNot := by decide +kernel
  have hl : lv_has ls 4 [(0, .ref (gA g 53)), (1, .int x), (2, .int y)] := hl
  refine lv_aload_n C.1.1 C.1.2.1 dX6_whyNot_0 rfl (lv_at hl 0 rfl) ?_
  refine lv_iload_n C.1.1 C.1.2.1 dX6_whyNot_1 rfl (lv_at hl 1 rfl) ?_
  refine a_F hS (run_V C hP hS hl.1 53 6 (Nat.lt_of_lt_of_le (by decide) hn) rfl (by decide) rfl [.int x] (kX6_whyNone l g n v x) gX6_whyNot_X6_whyNone rfl hdX6_whyNone rfl ⟨rfl, rfl⟩ ⟨Nat.le_of_ble_eq_true rfl, Nat.le_of_ble_eq_true rfl⟩ rfl [] rfl (Nat.le_of_ble_eq_true rfl) dX6_whyNot_2 ⟨Nat.zero_le _, Nat.zero_le _⟩) (fun H locs hP hS => ?_)
  refine lv_istore_n (lv' := [(3, .int (whyF v x)), (0, .ref (gA g 53)), (1, .int x), (2, .int y)]) C.1.1 C.1.2.1 dX6_whyNot_5 rfl hl (by decide) rfl (fun ls hl => ?_)
  refine lv_iload_n C.1.1 C.1.2.1 dX6_whyNot_6 rfl (lv_at hl 0 rfl) ?_
  refine lv_if_lt (tgt := 14) C.1.1 C.1.2.1 dX6_whyNot_7 (by decide) (fun c_1 => ?_) (fun c_1 => ?_)
  · skip
    refine lv_aload_n C.1.1 C.1.2.1 dX6_whyNot_14 rfl (lv_at hl 1 rfl) ?_
    refine lv_iload_n C.1.1 C.1.2.1 dX6_whyNot_15 rfl (lv_at hl 3 rfl) ?_
    refine a_B hS (run_V C hP hS hl.1 53 6 (Nat.lt_of_lt_of_le (by decide) hn) rfl (by decide) rfl [.int y] (kX6_isResident l g n v y N hM) gX6_whyNot_X6_isResident rfl hdX6_isResident rfl ⟨rfl, rfl⟩ ⟨Nat.le_of_ble_eq_true rfl, Nat.le_of_ble_eq_true rfl⟩ rfl [] rfl (Nat.le_of_ble_eq_true rfl) dX6_whyNot_16 ⟨Nat.zero_le _, Nat.zero_le _⟩) (fun b_2 H locs hP hS => ?_) (fun b_2 H locs hP hS => ?_)
    · skip
      obtain ⟨jy, hjy, rfl⟩ := b_2
      refine lv_if_eq (tgt := 26) C.1.1 C.1.2.1 dX6_whyNot_19 (by decide) (fun c_3 => absurd c_3 (by decide)) (fun _ => ?_)
      refine lv_iconst (v := (-1)) C.1.1 C.1.2.1 dX6_whyNot_22 rfl ?_
      refine lv_goto (tgt := 27) C.1.1 C.1.2.1 dX6_whyNot_23 (by decide) ?_
      exact t_F C rfl hP hS (by rw [whyN, if_pos c_1, cif_pos ⟨jy, hjy, rfl⟩]) rfl dX6_whyNot_27
    · skip
      refine lv_if_eq (tgt := 26) C.1.1 C.1.2.1 dX6_whyNot_19 (by decide) (fun _ => ?_) (fun c_4 => absurd c_4 (by decide))
      refine lv_iconst (v := 0) C.1.1 C.1.2.1 dX6_whyNot_26 rfl ?_
      exact t_F C rfl hP hS (by rw [whyN, if_pos c_1, cif_neg b_2]) rfl dX6_whyNot_27
  · skip
    refine lv_iload_n C.1.1 C.1.2.1 dX6_whyNot_10 rfl (lv_at hl 0 rfl) ?_
    refine lv_goto (tgt := 27) C.1.1 C.1.2.1 dX6_whyNot_11 (by decide) ?_
    exact t_F C rfl hP hS (by rw [whyN, if_neg c_1]) rfl dX6_whyNot_27

abbrev rmX6_seed : Room := { frames := 1, cells := 0, slots := 0, locals := 23 }
set_option maxHeartbeats 4000000 in
set_option maxRecDepth 100000 in
theorem kX6_seed (l : Launch) (g : GG) (n : Nat) (v : SV) (x : Int32)  : Met l yX6_seed wsX6_seed rmX6_seed (PW g n v [.ref (gA g 53), .int x]) (QF g n ((seedM v x).1) ((seedM v x).2)) 0 0 (wA g n) := by
  refine Met.begin RX6 rfl (by decide) rfl (Nat.le_of_ble_eq_true rfl) ?_
  intro p e s m args below meth c ls ha C hP hS hl
  have hn : 64 ≤ n := C.2.1.1.2.1
  have hi6 : ∀ w ∈ u_ws RX6 TX6 17, w ∈ wsX6_seed := by decide +kernel
  have hl : lv_has ls 2 [(0, .ref (gA g 53)), (1, .int x)] := hl
  refine lv_aload_n C.1.1 C.1.2.1 dX6_seed_0 rfl (lv_at hl 0 rfl) ?_
  refine lv_iconst (v := 2) C.1.1 C.1.2.1 dX6_seed_1 rfl ?_
  refine lv_iload_n C.1.1 C.1.2.1 dX6_seed_2 rfl (lv_at hl 1 rfl) ?_
  refine a_F hS (run_V C hP hS hl.1 53 6 (Nat.lt_of_lt_of_le (by decide) hn) rfl (by decide) rfl [.int 2, .int x] (kX6_becomes l g n v 2 x (by omega)) gX6_seed_X6_becomes rfl hdX6_becomes rfl ⟨rfl, rfl⟩ ⟨Nat.le_of_ble_eq_true rfl, Nat.le_of_ble_eq_true rfl⟩ rfl [] rfl (Nat.le_of_ble_eq_true rfl) dX6_seed_3 ⟨Nat.zero_le _, Nat.zero_le _⟩) (fun H locs hP hS => ?_)
  obtain ⟨v_1, hv_1⟩ : ∃ zz, zz = up v 54 2 x := ⟨_, rfl⟩
  rw [← hv_1] at hP
  exact t_F C rfl hP hS rfl (by assumption) dX6_seed_6

abbrev rmX6_wipe : Room := { frames := 0, cells := 0, slots := 0, locals := 0 }
set_option maxHeartbeats 4000000 in
set_option maxRecDepth 100000 in
theorem kX6_wipe (l : Launch) (g : GG) (n : Nat) (v : SV)  : Met l yX6_wipe wsX6_wipe rmX6_wipe (PW g n v [.ref (gA g 53)]) (QF g n ((wipeM v).1) ((wipeM v).2)) 0 0 (wA g n) := by
  refine Met.begin RX6 rfl (by decide) rfl (Nat.le_of_ble_eq_true rfl) ?_
  intro p e s m args below meth c ls ha C hP hS hl
  have hn : 64 ≤ n := C.2.1.1.2.1
  have hi6 : ∀ w ∈ u_ws RX6 TX6 17, w ∈ wsX6_wipe := by decide +kernel
  have hl : lv_has ls 2 [(0, .ref (gA g 53))] := hl
  refine lv_aload_n C.1.1 C.1.2.1 dX6_wipe_0 rfl (lv_at hl 0 rfl) ?_
  refine r_get C hP 53 6 (Nat.lt_of_lt_of_le (by decide) hn) rfl (by decide) rfl hi6 7 (by decide) (List.mem_of_getElem? (i := 1) rfl) rfl (val := .int (v.1 53 7)) rfl dX6_wipe_1 ?_
  refine lv_istore_n (lv' := [(1, .int (v.1 53 7)), (0, .ref (gA g 53))]) C.1.1 C.1.2.1 dX6_wipe_4 rfl hl (by decide) rfl (fun ls hl => ?_)
  refine lv_aload_n C.1.1 C.1.2.1 dX6_wipe_5 rfl (lv_at hl 1 rfl) ?_
  refine lv_iconst (v := 0) C.1.1 C.1.2.1 dX6_wipe_6 rfl ?_
  refine r_put C hP hS 53 6 (Nat.lt_of_lt_of_le (by decide) hn) rfl (by decide) rfl hi6 tyX6 tyX6_ok nmX6 7 (by decide) (List.mem_of_getElem? (i := 1) rfl) rfl rfl rfl rfl rfl (Nat.le_of_ble_eq_true rfl) dX6_wipe_7 (fun H locs hP hS => ?_)
  obtain ⟨v_2, hv_2⟩ : ∃ zz, zz = up v 53 7 0 := ⟨_, rfl⟩
  rw [← hv_2] at hP
  refine lv_iload_n C.1.1 C.1.2.1 dX6_wipe_10 rfl (lv_at hl 0 rfl) ?_
  exact t_F C rfl hP hS rfl (by assumption) dX6_wipe_11

abbrev rmX6_image : Room := { frames := 1, cells := 0, slots := 0, locals := 22 }
set_option maxHeartbeats 4000000 in
set_option maxRecDepth 100000 in
theorem kX6_image (l : Launch) (g : GG) (n : Nat) (v : SV)  : Met l yX6_image wsX6_image rmX6_image (PW g n v [.ref (gA g 53)]) (QF g n ((imageM v).1) ((imageM v).2)) 0 0 (wA g n) := by
  refine Met.begin RX6 rfl (by decide) rfl (Nat.le_of_ble_eq_true rfl) ?_
  intro p e s m args below meth c ls ha C hP hS hl
  have hn : 64 ≤ n := C.2.1.1.2.1
  have hi6 : ∀ w ∈ u_ws RX6 TX6 17, w ∈ wsX6_image := by decide +kernel
  have hl : lv_has ls 1 [(0, .ref (gA g 53))] := hl
  refine lv_aload_n C.1.1 C.1.2.1 dX6_image_0 rfl (lv_at hl 0 rfl) ?_
  refine r_get C hP 53 6 (Nat.lt_of_lt_of_le (by decide) hn) rfl (by decide) rfl hi6 0 (by decide) (List.mem_of_getElem? (i := 1) rfl) rfl (val := .ref (gA g 54)) rfl dX6_image_1 ?_
  refine lv_aload_n C.1.1 C.1.2.1 dX6_image_4 rfl (lv_at hl 0 rfl) ?_
  refine r_get C hP 53 6 (Nat.lt_of_lt_of_le (by decide) hn) rfl (by decide) rfl hi6 3 (by decide) (List.mem_of_getElem? (i := 2) rfl) rfl (val := .ref (gA g 57)) rfl dX6_image_5 ?_
  refine a_G hS (run_S C hP hS hl.1 [.ref (gA g 54), .ref (gA g 57)] (kX6_copies l g n v 54 57 (by decide) (by decide) (by decide)) gX6_image_X6_copies hdX6_copies rfl ⟨rfl, rfl⟩ ⟨Nat.le_of_ble_eq_true rfl, Nat.le_of_ble_eq_true rfl⟩ rfl [] rfl (Nat.le_of_ble_eq_true rfl) dX6_image_8 ⟨Nat.zero_le _, Nat.zero_le _⟩) (fun H locs hP hS => ?_)
  obtain ⟨v_1, hv_1⟩ : ∃ zz, zz = upw v 57 (cpyM (v.1 54) (v.1 57) 83) := ⟨_, rfl⟩
  rw [← hv_1] at hP
  refine lv_aload_n C.1.1 C.1.2.1 dX6_image_11 rfl (lv_at hl 0 rfl) ?_
  refine lv_iconst (v := 1) C.1.1 C.1.2.1 dX6_image_12 rfl ?_
  refine r_put C hP hS 53 6 (Nat.lt_of_lt_of_le (by decide) hn) rfl (by decide) rfl hi6 tyX6 tyX6_ok nmX6 4 (by decide) (List.mem_of_getElem? (i := 3) rfl) rfl rfl rfl rfl rfl (Nat.le_of_ble_eq_true rfl) dX6_image_13 (fun H locs hP hS => ?_)
  obtain ⟨v_3, hv_3⟩ : ∃ zz, zz = up v_1 53 4 1 := ⟨_, rfl⟩
  rw [← hv_3] at hP
  refine lv_iconst (v := 1) C.1.1 C.1.2.1 dX6_image_16 rfl ?_
  exact t_F C rfl hP hS rfl (by rw [hv_3, hv_1]; rfl) dX6_image_17

abbrev rmX6_undo : Room := { frames := 1, cells := 0, slots := 0, locals := 22 }
set_option maxHeartbeats 4000000 in
set_option maxRecDepth 100000 in
theorem kX6_undo (l : Launch) (g : GG) (n : Nat) (v : SV)  : Met l yX6_undo wsX6_undo rmX6_undo (PW g n v [.ref (gA g 53)]) (QF g n ((undoM v).1) ((undoM v).2)) 0 0 (wA g n) := by
  refine Met.begin RX6 rfl (by decide) rfl (Nat.le_of_ble_eq_true rfl) ?_
  intro p e s m args below meth c ls ha C hP hS hl
  have hn : 64 ≤ n := C.2.1.1.2.1
  have hi6 : ∀ w ∈ u_ws RX6 TX6 17, w ∈ wsX6_undo := by decide +kernel
  have hl : lv_has ls 1 [(0, .ref (gA g 53))] := hl
  refine lv_aload_n C.1.1 C.1.2.1 dX6_undo_0 rfl (lv_at hl 0 rfl) ?_
  refine r_get C hP 53 6 (Nat.lt_of_lt_of_le (by decide) hn) rfl (by decide) rfl hi6 4 (by decide) (List.mem_of_getElem? (i := 1) rfl) rfl (val := .int (v.1 53 4)) rfl dX6_undo_1 ?_
  refine lv_if_ne (tgt := 13) C.1.1 C.1.2.1 dX6_undo_4 (by decide) (fun c_1 => ?_) (fun c_1 => ?_)
  · skip
    refine lv_aload_n C.1.1 C.1.2.1 dX6_undo_13 rfl (lv_at hl 0 rfl) ?_
    refine r_get C hP 53 6 (Nat.lt_of_lt_of_le (by decide) hn) rfl (by decide) rfl hi6 3 (by decide) (List.mem_of_getElem? (i := 2) rfl) rfl (val := .ref (gA g 57)) rfl dX6_undo_14 ?_
    refine lv_aload_n C.1.1 C.1.2.1 dX6_undo_17 rfl (lv_at hl 0 rfl) ?_
    refine r_get C hP 53 6 (Nat.lt_of_lt_of_le (by decide) hn) rfl (by decide) rfl hi6 0 (by decide) (List.mem_of_getElem? (i := 3) rfl) rfl (val := .ref (gA g 54)) rfl dX6_undo_18 ?_
    refine a_G hS (run_S C hP hS hl.1 [.ref (gA g 57), .ref (gA g 54)] (kX6_copies l g n v 57 54 (by decide) (by decide) (by decide)) gX6_undo_X6_copies hdX6_copies rfl ⟨rfl, rfl⟩ ⟨Nat.le_of_ble_eq_true rfl, Nat.le_of_ble_eq_true rfl⟩ rfl [] rfl (Nat.le_of_ble_eq_true rfl) dX6_undo_21 ⟨Nat.zero_le _, Nat.zero_le _⟩) (fun H locs hP hS => ?_)
    obtain ⟨v_2, hv_2⟩ : ∃ zz, zz = upw v 54 (cpyM (v.1 57) (v.1 54) 83) := ⟨_, rfl⟩
    rw [← hv_2] at hP
    refine lv_aload_n C.1.1 C.1.2.1 dX6_undo_24 rfl (lv_at hl 0 rfl) ?_
    refine r_get C hP 53 6 (Nat.lt_of_lt_of_le (by decide) hn) rfl (by decide) rfl hi6 0 (by decide) (List.mem_of_getElem? (i := 3) rfl) rfl (val := .ref (gA g 54)) rfl dX6_undo_25 ?_
    refine lv_iconst (v := 1) C.1.1 C.1.2.1 dX6_undo_28 rfl ?_
    refine r_iald C hP 54 (Nat.lt_of_lt_of_le (by decide) hn) rfl 1 rfl (N := 83) rfl (by decide) (by omega) dX6_undo_29 ?_
    exact t_F C rfl hP hS (by rw [undoM, if_neg c_1, hv_2, upw_same]) (by rw [undoM, if_neg c_1, hv_2]) dX6_undo_30
  · skip
    refine lv_aload_n C.1.1 C.1.2.1 dX6_undo_7 rfl (lv_at hl 0 rfl) ?_
    refine lv_iconst (v := 3) C.1.1 C.1.2.1 dX6_undo_8 rfl ?_
    refine a_F hS (run_V C hP hS hl.1 53 6 (Nat.lt_of_lt_of_le (by decide) hn) rfl (by decide) rfl [.int 3] (kX6_finds l g n v 3 (by decide)) gX6_undo_X6_finds rfl hdX6_finds rfl ⟨rfl, rfl⟩ ⟨Nat.le_of_ble_eq_true rfl, Nat.le_of_ble_eq_true rfl⟩ rfl [] rfl (Nat.le_of_ble_eq_true rfl) dX6_undo_9 ⟨Nat.zero_le _, Nat.zero_le _⟩) (fun H locs hP hS => ?_)
    obtain ⟨v_3, hv_3⟩ : ∃ zz, zz = fnd v 3 := ⟨_, rfl⟩
    rw [← hv_3] at hP
    exact t_F C rfl hP hS (by (rw [undoM]; rw [if_pos c_1]) <;> try simp only [fdM, upw_same, eq_self, if_true, if_false, ite_true, ite_false, ↓reduceIte, c_1, hv_3]) (by (rw [undoM]; rw [if_pos c_1]) <;> try simp only [fdM, upw_same, eq_self, if_true, if_false, ite_true, ite_false, ↓reduceIte, c_1, hv_3]) dX6_undo_12

abbrev rmX6_tear : Room := { frames := 0, cells := 0, slots := 0, locals := 0 }
set_option maxHeartbeats 4000000 in
set_option maxRecDepth 100000 in
theorem kX6_tear (l : Launch) (g : GG) (n : Nat) (v : SV)  : Met l yX6_tear wsX6_tear rmX6_tear (PW g n v [.ref (gA g 53)]) (QF g n ((tearM v).1) ((tearM v).2)) 0 0 (wA g n) := by
  refine Met.begin RX6 rfl (by decide) rfl (Nat.le_of_ble_eq_true rfl) ?_
  intro p e s m args below meth c ls ha C hP hS hl
  have hn : 64 ≤ n := C.2.1.1.2.1
  have hi6 : ∀ w ∈ u_ws RX6 TX6 17, w ∈ wsX6_tear := by decide +kernel
  have hl : lv_has ls 2 [(0, .ref (gA g 53))] := hl
  refine lv_aload_n C.1.1 C.1.2.1 dX6_tear_0 rfl (lv_at hl 0 rfl) ?_
  refine r_get C hP 53 6 (Nat.lt_of_lt_of_le (by decide) hn) rfl (by decide) rfl hi6 4 (by decide) (List.mem_of_getElem? (i := 1) rfl) rfl (val := .int (v.1 53 4)) rfl dX6_tear_1 ?_
  refine lv_if_eq (tgt := 11) C.1.1 C.1.2.1 dX6_tear_4 (by decide) (fun c_1 => ?_) (fun c_1 => ?_)
  · skip
    refine lv_iconst (v := 0) C.1.1 C.1.2.1 dX6_tear_11 rfl ?_
    refine lv_istore_n (lv' := [(1, .int 0), (0, .ref (gA g 53))]) C.1.1 C.1.2.1 dX6_tear_12 rfl hl (by decide) rfl (fun ls hl => ?_)
    refine lv_aload_n C.1.1 C.1.2.1 dX6_tear_13 rfl (lv_at hl 1 rfl) ?_
    refine lv_iconst (v := 0) C.1.1 C.1.2.1 dX6_tear_14 rfl ?_
    refine r_put C hP hS 53 6 (Nat.lt_of_lt_of_le (by decide) hn) rfl (by decide) rfl hi6 tyX6 tyX6_ok nmX6 4 (by decide) (List.mem_of_getElem? (i := 1) rfl) rfl rfl rfl rfl rfl (Nat.le_of_ble_eq_true rfl) dX6_tear_15 (fun H locs hP hS => ?_)
    obtain ⟨v_3, hv_3⟩ : ∃ zz, zz = up v 53 4 0 := ⟨_, rfl⟩
    rw [← hv_3] at hP
    refine lv_iload_n C.1.1 C.1.2.1 dX6_tear_18 rfl (lv_at hl 0 rfl) ?_
    exact t_F C rfl hP hS (by rw [tearM, if_pos c_1]) (by rw [tearM, if_pos c_1, hv_3]) dX6_tear_19
  · skip
    refine lv_iconst (v := 1) C.1.1 C.1.2.1 dX6_tear_7 rfl ?_
    refine lv_goto (tgt := 12) C.1.1 C.1.2.1 dX6_tear_8 (by decide) ?_
    refine lv_istore_n (lv' := [(1, .int 1), (0, .ref (gA g 53))]) C.1.1 C.1.2.1 dX6_tear_12 rfl hl (by decide) rfl (fun ls hl => ?_)
    refine lv_aload_n C.1.1 C.1.2.1 dX6_tear_13 rfl (lv_at hl 1 rfl) ?_
    refine lv_iconst (v := 0) C.1.1 C.1.2.1 dX6_tear_14 rfl ?_
    refine r_put C hP hS 53 6 (Nat.lt_of_lt_of_le (by decide) hn) rfl (by decide) rfl hi6 tyX6 tyX6_ok nmX6 4 (by decide) (List.mem_of_getElem? (i := 1) rfl) rfl rfl rfl rfl rfl (Nat.le_of_ble_eq_true rfl) dX6_tear_15 (fun H locs hP hS => ?_)
    obtain ⟨v_5, hv_5⟩ : ∃ zz, zz = up v 53 4 0 := ⟨_, rfl⟩
    rw [← hv_5] at hP
    refine lv_iload_n C.1.1 C.1.2.1 dX6_tear_18 rfl (lv_at hl 0 rfl) ?_
    exact t_F C rfl hP hS (by rw [tearM, if_neg c_1]) (by rw [tearM, if_neg c_1, hv_5]) dX6_tear_19

abbrev rmX6_holding : Room := { frames := 0, cells := 0, slots := 0, locals := 0 }
set_option maxHeartbeats 4000000 in
set_option maxRecDepth 100000 in
theorem kX6_holding (l : Launch) (g : GG) (n : Nat) (v : SV)  : Met l yX6_holding wsX6_holding rmX6_holding (PW g n v [.ref (gA g 53)]) (QF g n (holdM (v.1 54) 10) v) 0 0 (wA g n) := by
  refine Met.begin RX6 rfl (by decide) rfl (Nat.le_of_ble_eq_true rfl) ?_
  intro p e s m args below meth c ls ha C hP hS hl
  have hn : 64 ≤ n := C.2.1.1.2.1
  have hi6 : ∀ w ∈ u_ws RX6 TX6 17, w ∈ wsX6_holding := by decide +kernel
  have hl : lv_has ls 3 [(0, .ref (gA g 53))] := hl
  refine lv_iconst (v := 0) C.1.1 C.1.2.1 dX6_holding_0 rfl ?_
  refine lv_istore_n (lv' := [(1, .int 0), (0, .ref (gA g 53))]) C.1.1 C.1.2.1 dX6_holding_1 rfl hl (by decide) rfl (fun ls hl => ?_)
  refine lv_iconst (v := 0) C.1.1 C.1.2.1 dX6_holding_2 rfl ?_
  refine lv_istore_n (lv' := [(2, .int 0), (1, .int 0), (0, .ref (gA g 53))]) C.1.1 C.1.2.1 dX6_holding_3 rfl hl (by decide) rfl (fun ls hl => ?_)
  have lp_4 : ∀ (k_4 i : Nat), i ≤ 10 → 10 + 1 ≤ i + k_4 → ∀ (H : Heap) (locs : List Loc) (ls : Array Slot), va_P g.1 vwCl (wl g n v) H → va_S (wA g n) s.heap H locs → lv_has ls 3 [(0, .ref (gA g 53)), (1, .int (holdM (v.1 54) i)), (2, .int (nI i))] → W p l e rmX6_holding s m args below meth c H locs 0 0 (MQ below (QF g n (holdM (v.1 54) 10) v) args s 0 0 (wA g n)) (F0 m 4 ls []) := by
    clear hP hS hl
    intro k_4
    induction k_4 with
    | zero => exact fun i h1 h2 => absurd h2 (by omega)
    | succ k_4 ih_4 =>
      intro i hi_4 hk_4 H locs ls hP hS hl
      refine lv_iload_n C.1.1 C.1.2.1 dX6_holding_4 rfl (lv_at hl 2 rfl) ?_
      refine lv_bipush (v := 10) C.1.1 C.1.2.1 dX6_holding_5 rfl ?_
      refine lv_icmp_ge (tgt := 36) C.1.1 C.1.2.1 dX6_holding_7 (by decide) (fun c_1 => ?_) (fun c_1 => ?_)
      · rw [show (10 ≤ nI i) = (10 ≤ i) from propext (nI_leI (a := 10) (b := i) (by omega) (by omega))] at c_1
        have hi10 : i = 10 := by omega
        subst hi10
        refine lv_iload_n C.1.1 C.1.2.1 dX6_holding_36 rfl (lv_at hl 1 rfl) ?_
        exact t_F C rfl hP hS rfl rfl dX6_holding_37
      · rw [show (10 ≤ nI i) = (10 ≤ i) from propext (nI_leI (a := 10) (b := i) (by omega) (by omega))] at c_1
        refine lv_iload_n C.1.1 C.1.2.1 dX6_holding_10 rfl (lv_at hl 1 rfl) ?_
        refine lv_aload_n C.1.1 C.1.2.1 dX6_holding_11 rfl (lv_at hl 0 rfl) ?_
        refine r_get C hP 53 6 (Nat.lt_of_lt_of_le (by decide) hn) rfl (by decide) rfl hi6 0 (by decide) (List.mem_of_getElem? (i := 1) rfl) rfl (val := .ref (gA g 54)) rfl dX6_holding_12 ?_
        refine lv_bipush (v := 73) C.1.1 C.1.2.1 dX6_holding_15 rfl ?_
        refine lv_iload_n C.1.1 C.1.2.1 dX6_holding_17 rfl (lv_at hl 2 rfl) ?_
        refine lv_iadd C.1.1 C.1.2.1 dX6_holding_18 ?_
        refine lv_topE (nI (73 + i)) (nI_add 73 i) ?_
        refine r_iald C hP 54 (Nat.lt_of_lt_of_le (by decide) hn) rfl (73 + i) rfl (N := 83) rfl (by decide) (by omega) dX6_holding_19 ?_
        have jn_2 : ∀ (H : Heap) (locs : List Loc) (ls : Array Slot), va_P g.1 vwCl (wl g n v) H → va_S (wA g n) s.heap H locs → lv_has ls 3 [(0, .ref (gA g 53)), (1, .int (holdM (v.1 54) i)), (2, .int (nI i))] → W p l e rmX6_holding s m args below meth c H locs 0 0 (MQ below (QF g n (holdM (v.1 54) 10) v) args s 0 0 (wA g n)) (F0 m 28 ls [.int (if (v.1 54 (73 + i)) ≤ 0 then 0 else 1), .int (holdM (v.1 54) i)]) := by
          clear hP hS hl
          intro H locs ls hP hS hl
          refine lv_iadd C.1.1 C.1.2.1 dX6_holding_28 ?_
          refine lv_istore_n (lv' := [(1, .int ((holdM (v.1 54) i) + (if (v.1 54 (73 + i)) ≤ 0 then 0 else 1))), (0, .ref (gA g 53)), (2, .int (nI i))]) C.1.1 C.1.2.1 dX6_holding_29 rfl hl (by decide) rfl (fun ls hl => ?_)
          refine lv_iinc (v := nI (i + 1)) (lv' := [(2, .int (nI (i + 1))), (1, .int ((holdM (v.1 54) i) + (if (v.1 54 (73 + i)) ≤ 0 then 0 else 1))), (0, .ref (gA g 53))]) C.1.1 C.1.2.1 dX6_holding_30 hl (k := 2) rfl (nI_1 i) (by decide) rfl (fun ls hl => ?_)
          refine lv_goto (tgt := 4) C.1.1 C.1.2.1 dX6_holding_33 (by decide) ?_
          exact ih_4 (i + 1) (by omega) (by omega) _ _ _ hP hS (lv_sub hl [2, 1, 0] rfl)
        refine lv_if_le (tgt := 27) C.1.1 C.1.2.1 dX6_holding_20 (by decide) (fun c_3 => ?_) (fun c_3 => ?_)
        · skip
          refine lv_iconst (v := 0) C.1.1 C.1.2.1 dX6_holding_27 rfl ?_
          exact lv_topE (if (v.1 54 (73 + i)) ≤ 0 then 0 else 1) (by simp only [c_1, c_3, if_true, if_false, ite_true, ite_false]) (jn_2 _ _ _ hP hS (lv_sub hl [0, 1, 2] rfl))
        · skip
          refine lv_iconst (v := 1) C.1.1 C.1.2.1 dX6_holding_23 rfl ?_
          refine lv_goto (tgt := 28) C.1.1 C.1.2.1 dX6_holding_24 (by decide) ?_
          exact lv_topE (if (v.1 54 (73 + i)) ≤ 0 then 0 else 1) (by simp only [c_1, c_3, if_true, if_false, ite_true, ite_false]) (jn_2 _ _ _ hP hS (lv_sub hl [0, 1, 2] rfl))
  exact lp_4 (10 + 1) 0 (Nat.zero_le _) (by omega) _ _ _ hP hS (lv_sub hl [2, 1, 0] rfl)

abbrev rmX6_count : Room := { frames := 2, cells := 0, slots := 0, locals := 45 }
set_option maxHeartbeats 4000000 in
set_option maxRecDepth 100000 in
theorem kX6_count (l : Launch) (g : GG) (n : Nat) (v : SV) (x : Int32) (N : Nat) (hM : okM (v.1 54) N) : Met l yX6_count wsX6_count rmX6_count (PW g n v [.ref (gA g 53), .int x]) (QF g n ((countM v x).1) ((countM v x).2)) 0 0 (wA g n) := by
  refine Met.begin RX6 rfl (by decide) rfl (Nat.le_of_ble_eq_true rfl) ?_
  intro p e s m args below meth c ls ha C hP hS hl
  have hn : 64 ≤ n := C.2.1.1.2.1
  have hi6 : ∀ w ∈ u_ws RX6 TX6 17, w ∈ wsX6_count := by decide +kernel
  have hl : lv_has ls 2 [(0, .ref (gA g 53)), (1, .int x)] := hl
  have h8 := hM.1
  refine lv_iload_n C.1.1 C.1.2.1 dX6_count_0 rfl (lv_at hl 1 rfl) ?_
  by_cases c_1 : x = 0
  · refine lv_topE 0 c_1 ?_
    refine lv_tableIn (off := 47) (tgt := 48) C.1.1 C.1.2.1 dX6_count_1 (by decide) (by decide) rfl (by decide) ?_
    refine lv_aload_n C.1.1 C.1.2.1 dX6_count_48 rfl (lv_at hl 0 rfl) ?_
    refine r_get C hP 53 6 (Nat.lt_of_lt_of_le (by decide) hn) rfl (by decide) rfl hi6 0 (by decide) (List.mem_of_getElem? (i := 1) rfl) rfl (val := .ref (gA g 54)) rfl dX6_count_49 ?_
    refine lv_iconst (v := 1) C.1.1 C.1.2.1 dX6_count_52 rfl ?_
    refine r_iald C hP 54 (Nat.lt_of_lt_of_le (by decide) hn) rfl 1 rfl (N := 83) rfl (by decide) (by omega) dX6_count_53 ?_
    exact t_F C rfl hP hS (by (rw [countM, nM_eq hM]; rw [if_pos c_1]) <;> try simp only [fdM, upw_same, eq_self, if_true, if_false, ite_true, ite_false, ↓reduceIte, nM_eq hM, hM.2.1]) (by (rw [countM, nM_eq hM]; rw [if_pos c_1]) <;> try simp only [fdM, upw_same, eq_self, if_true, if_false, ite_true, ite_false, ↓reduceIte, nM_eq hM, hM.2.1]) dX6_count_54
  by_cases c_2 : x = 1
  · refine lv_topE 1 c_2 ?_
    refine lv_tableIn (off := 54) (tgt := 55) C.1.1 C.1.2.1 dX6_count_1 (by decide) (by decide) rfl (by decide) ?_
    refine lv_aload_n C.1.1 C.1.2.1 dX6_count_55 rfl (lv_at hl 0 rfl) ?_
    refine r_get C hP 53 6 (Nat.lt_of_lt_of_le (by decide) hn) rfl (by decide) rfl hi6 0 (by decide) (List.mem_of_getElem? (i := 1) rfl) rfl (val := .ref (gA g 54)) rfl dX6_count_56 ?_
    refine lv_iconst (v := 0) C.1.1 C.1.2.1 dX6_count_59 rfl ?_
    refine r_iald C hP 54 (Nat.lt_of_lt_of_le (by decide) hn) rfl 0 rfl (N := 83) rfl (by decide) (by omega) dX6_count_60 ?_
    exact t_F C rfl hP hS (by (rw [countM, nM_eq hM]; rw [if_neg c_1, if_pos c_2]) <;> try simp only [fdM, upw_same, eq_self, if_true, if_false, ite_true, ite_false, ↓reduceIte, nM_eq hM, hM.2.1]) (by (rw [countM, nM_eq hM]; rw [if_neg c_1, if_pos c_2]) <;> try simp only [fdM, upw_same, eq_self, if_true, if_false, ite_true, ite_false, ↓reduceIte, nM_eq hM, hM.2.1]) dX6_count_61
  by_cases c_3 : x = 2
  · refine lv_topE 2 c_3 ?_
    refine lv_tableIn (off := 61) (tgt := 62) C.1.1 C.1.2.1 dX6_count_1 (by decide) (by decide) rfl (by decide) ?_
    refine lv_aload_n C.1.1 C.1.2.1 dX6_count_62 rfl (lv_at hl 0 rfl) ?_
    refine r_get C hP 53 6 (Nat.lt_of_lt_of_le (by decide) hn) rfl (by decide) rfl hi6 0 (by decide) (List.mem_of_getElem? (i := 1) rfl) rfl (val := .ref (gA g 54)) rfl dX6_count_63 ?_
    refine lv_bipush (v := 6) C.1.1 C.1.2.1 dX6_count_66 rfl ?_
    refine r_iald C hP 54 (Nat.lt_of_lt_of_le (by decide) hn) rfl 6 rfl (N := 83) rfl (by decide) (by omega) dX6_count_68 ?_
    exact t_F C rfl hP hS (by (rw [countM, nM_eq hM]; rw [if_neg c_1, if_neg c_2, if_pos c_3]) <;> try simp only [fdM, upw_same, eq_self, if_true, if_false, ite_true, ite_false, ↓reduceIte, nM_eq hM, hM.2.1]) (by (rw [countM, nM_eq hM]; rw [if_neg c_1, if_neg c_2, if_pos c_3]) <;> try simp only [fdM, upw_same, eq_self, if_true, if_false, ite_true, ite_false, ↓reduceIte, nM_eq hM, hM.2.1]) dX6_count_69
  by_cases c_4 : x = 3
  · refine lv_topE 3 c_4 ?_
    refine lv_tableIn (off := 69) (tgt := 70) C.1.1 C.1.2.1 dX6_count_1 (by decide) (by decide) rfl (by decide) ?_
    refine lv_aload_n C.1.1 C.1.2.1 dX6_count_70 rfl (lv_at hl 0 rfl) ?_
    refine lv_iconst (v := 4) C.1.1 C.1.2.1 dX6_count_71 rfl ?_
    refine a_F hS (run_V C hP hS hl.1 53 6 (Nat.lt_of_lt_of_le (by decide) hn) rfl (by decide) rfl [.int 4] (kX6_sumOf l g n v 4 (by omega) N hM) gX6_count_X6_sumOf rfl hdX6_sumOf rfl ⟨rfl, rfl⟩ ⟨Nat.le_of_ble_eq_true rfl, Nat.le_of_ble_eq_true rfl⟩ rfl [] rfl (Nat.le_of_ble_eq_true rfl) dX6_count_72 ⟨Nat.zero_le _, Nat.zero_le _⟩) (fun H locs hP hS => ?_)
    exact t_F C rfl hP hS (by (rw [countM, nM_eq hM]; rw [if_neg c_1, if_neg c_2, if_neg c_3, if_pos c_4]) <;> try simp only [fdM, upw_same, eq_self, if_true, if_false, ite_true, ite_false, ↓reduceIte, nM_eq hM, hM.2.1]) (by (rw [countM, nM_eq hM]; rw [if_neg c_1, if_neg c_2, if_neg c_3, if_pos c_4]) <;> try simp only [fdM, upw_same, eq_self, if_true, if_false, ite_true, ite_false, ↓reduceIte, nM_eq hM, hM.2.1]) dX6_count_75
  by_cases c_5 : x = 4
  · refine lv_topE 4 c_5 ?_
    refine lv_tableIn (off := 75) (tgt := 76) C.1.1 C.1.2.1 dX6_count_1 (by decide) (by decide) rfl (by decide) ?_
    refine lv_aload_n C.1.1 C.1.2.1 dX6_count_76 rfl (lv_at hl 0 rfl) ?_
    refine lv_iconst (v := 3) C.1.1 C.1.2.1 dX6_count_77 rfl ?_
    refine a_F hS (run_V C hP hS hl.1 53 6 (Nat.lt_of_lt_of_le (by decide) hn) rfl (by decide) rfl [.int 3] (kX6_sumOf l g n v 3 (by omega) N hM) gX6_count_X6_sumOf rfl hdX6_sumOf rfl ⟨rfl, rfl⟩ ⟨Nat.le_of_ble_eq_true rfl, Nat.le_of_ble_eq_true rfl⟩ rfl [] rfl (Nat.le_of_ble_eq_true rfl) dX6_count_78 ⟨Nat.zero_le _, Nat.zero_le _⟩) (fun H locs hP hS => ?_)
    exact t_F C rfl hP hS (by (rw [countM, nM_eq hM]; rw [if_neg c_1, if_neg c_2, if_neg c_3, if_neg c_4, if_pos c_5]) <;> try simp only [fdM, upw_same, eq_self, if_true, if_false, ite_true, ite_false, ↓reduceIte, nM_eq hM, hM.2.1]) (by (rw [countM, nM_eq hM]; rw [if_neg c_1, if_neg c_2, if_neg c_3, if_neg c_4, if_pos c_5]) <;> try simp only [fdM, upw_same, eq_self, if_true, if_false, ite_true, ite_false, ↓reduceIte, nM_eq hM, hM.2.1]) dX6_count_81
  by_cases c_6 : x = 5
  · refine lv_topE 5 c_6 ?_
    refine lv_tableIn (off := 81) (tgt := 82) C.1.1 C.1.2.1 dX6_count_1 (by decide) (by decide) rfl (by decide) ?_
    refine lv_aload_n C.1.1 C.1.2.1 dX6_count_82 rfl (lv_at hl 0 rfl) ?_
    refine r_get C hP 53 6 (Nat.lt_of_lt_of_le (by decide) hn) rfl (by decide) rfl hi6 7 (by decide) (List.mem_of_getElem? (i := 2) rfl) rfl (val := .int (v.1 53 7)) rfl dX6_count_83 ?_
    exact t_F C rfl hP hS (by (rw [countM, nM_eq hM]; rw [if_neg c_1, if_neg c_2, if_neg c_3, if_neg c_4, if_neg c_5, if_pos c_6]) <;> try simp only [fdM, upw_same, eq_self, if_true, if_false, ite_true, ite_false, ↓reduceIte, nM_eq hM, hM.2.1]) (by (rw [countM, nM_eq hM]; rw [if_neg c_1, if_neg c_2, if_neg c_3, if_neg c_4, if_neg c_5, if_pos c_6]) <;> try simp only [fdM, upw_same, eq_self, if_true, if_false, ite_true, ite_false, ↓reduceIte, nM_eq hM, hM.2.1]) dX6_count_86
  by_cases c_7 : x = 6
  · refine lv_topE 6 c_7 ?_
    refine lv_tableIn (off := 86) (tgt := 87) C.1.1 C.1.2.1 dX6_count_1 (by decide) (by decide) rfl (by decide) ?_
    refine lv_aload_n C.1.1 C.1.2.1 dX6_count_87 rfl (lv_at hl 0 rfl) ?_
    refine r_get C hP 53 6 (Nat.lt_of_lt_of_le (by decide) hn) rfl (by decide) rfl hi6 0 (by decide) (List.mem_of_getElem? (i := 1) rfl) rfl (val := .ref (gA g 54)) rfl dX6_count_88 ?_
    refine lv_iconst (v := 2) C.1.1 C.1.2.1 dX6_count_91 rfl ?_
    refine r_iald C hP 54 (Nat.lt_of_lt_of_le (by decide) hn) rfl 2 rfl (N := 83) rfl (by decide) (by omega) dX6_count_92 ?_
    exact t_F C rfl hP hS (by (rw [countM, nM_eq hM]; rw [if_neg c_1, if_neg c_2, if_neg c_3, if_neg c_4, if_neg c_5, if_neg c_6, if_pos c_7]) <;> try simp only [fdM, upw_same, eq_self, if_true, if_false, ite_true, ite_false, ↓reduceIte, nM_eq hM, hM.2.1]) (by (rw [countM, nM_eq hM]; rw [if_neg c_1, if_neg c_2, if_neg c_3, if_neg c_4, if_neg c_5, if_neg c_6, if_pos c_7]) <;> try simp only [fdM, upw_same, eq_self, if_true, if_false, ite_true, ite_false, ↓reduceIte, nM_eq hM, hM.2.1]) dX6_count_93
  by_cases c_8 : x = 7
  · refine lv_topE 7 c_8 ?_
    refine lv_tableIn (off := 93) (tgt := 94) C.1.1 C.1.2.1 dX6_count_1 (by decide) (by decide) rfl (by decide) ?_
    refine lv_aload_n C.1.1 C.1.2.1 dX6_count_94 rfl (lv_at hl 0 rfl) ?_
    refine a_F hS (run_V C hP hS hl.1 53 6 (Nat.lt_of_lt_of_le (by decide) hn) rfl (by decide) rfl [] (kX6_holding l g n v ) gX6_count_X6_holding rfl hdX6_holding rfl ⟨rfl, rfl⟩ ⟨Nat.le_of_ble_eq_true rfl, Nat.le_of_ble_eq_true rfl⟩ rfl [] rfl (Nat.le_of_ble_eq_true rfl) dX6_count_95 ⟨Nat.zero_le _, Nat.zero_le _⟩) (fun H locs hP hS => ?_)
    exact t_F C rfl hP hS (by (rw [countM, nM_eq hM]; rw [if_neg c_1, if_neg c_2, if_neg c_3, if_neg c_4, if_neg c_5, if_neg c_6, if_neg c_7, if_pos c_8]) <;> try simp only [fdM, upw_same, eq_self, if_true, if_false, ite_true, ite_false, ↓reduceIte, nM_eq hM, hM.2.1]) (by (rw [countM, nM_eq hM]; rw [if_neg c_1, if_neg c_2, if_neg c_3, if_neg c_4, if_neg c_5, if_neg c_6, if_neg c_7, if_pos c_8]) <;> try simp only [fdM, upw_same, eq_self, if_true, if_false, ite_true, ite_false, ↓reduceIte, nM_eq hM, hM.2.1]) dX6_count_98
  have hsw : x.toInt < 0 ∨ 7 < x.toInt := by
    have qc_1 := lv_neT (a := 0) c_1 rfl
    have qc_2 := lv_neT (a := 1) c_2 rfl
    have qc_3 := lv_neT (a := 2) c_3 rfl
    have qc_4 := lv_neT (a := 3) c_4 rfl
    have qc_5 := lv_neT (a := 4) c_5 rfl
    have qc_6 := lv_neT (a := 5) c_6 rfl
    have qc_7 := lv_neT (a := 6) c_7 rfl
    have qc_8 := lv_neT (a := 7) c_8 rfl
    omega
  refine lv_tableOut (tgt := 99) C.1.1 C.1.2.1 dX6_count_1 hsw (by decide) ?_
  refine lv_aload_n C.1.1 C.1.2.1 dX6_count_99 rfl (lv_at hl 0 rfl) ?_
  refine lv_iconst (v := 0) C.1.1 C.1.2.1 dX6_count_100 rfl ?_
  refine a_F hS (run_V C hP hS hl.1 53 6 (Nat.lt_of_lt_of_le (by decide) hn) rfl (by decide) rfl [.int 0] (kX6_finds l g n v 0 (by decide)) gX6_count_X6_finds rfl hdX6_finds rfl ⟨rfl, rfl⟩ ⟨Nat.le_of_ble_eq_true rfl, Nat.le_of_ble_eq_true rfl⟩ rfl [] rfl (Nat.le_of_ble_eq_true rfl) dX6_count_101 ⟨Nat.zero_le _, Nat.zero_le _⟩) (fun H locs hP hS => ?_)
  obtain ⟨v_9, hv_9⟩ : ∃ zz, zz = fnd v 0 := ⟨_, rfl⟩
  rw [← hv_9] at hP
  exact t_F C rfl hP hS (by (rw [countM, nM_eq hM]; rw [if_neg c_1, if_neg c_2, if_neg c_3, if_neg c_4, if_neg c_5, if_neg c_6, if_neg c_7, if_neg c_8]) <;> try simp only [fdM, upw_same, eq_self, if_true, if_false, ite_true, ite_false, ↓reduceIte, hv_9, nM_eq hM, hM.2.1]) (by (rw [countM, nM_eq hM]; rw [if_neg c_1, if_neg c_2, if_neg c_3, if_neg c_4, if_neg c_5, if_neg c_6, if_neg c_7, if_neg c_8]) <;> try simp only [fdM, upw_same, eq_self, if_true, if_false, ite_true, ite_false, ↓reduceIte, hv_9, nM_eq hM, hM.2.1]) dX6_count_104

abbrev rmX6_above : Room := { frames := 0, cells := 0, slots := 0, locals := 0 }
set_option maxHeartbeats 4000000 in
set_option maxRecDepth 100000 in
theorem kX6_above (l : Launch) (g : GG) (n : Nat) (v : SV) (x : Int32) : Met l yX6_above wsX6_above rmX6_above (PW g n v [.int x]) (QF g n (aboveF x) v) 0 0 (wA g n) := by
  refine Met.begin RX6 rfl (by decide) rfl (Nat.le_of_ble_eq_true rfl) ?_
  intro p e s m args below meth c ls ha C hP hS hl
  have hn : 64 ≤ n := C.2.1.1.2.1
  have hl : lv_has ls 1 [(0, .int x)] := hl
  refine lv_iload_n C.1.1 C.1.2.1 dX6_above_0 rfl (lv_at hl 0 rfl) ?_
  refine lv_iconst (v := 3) C.1.1 C.1.2.1 dX6_above_1 rfl ?_
  refine lv_icmp_ne (tgt := 9) C.1.1 C.1.2.1 dX6_above_2 (by decide) (fun c_1 => ?_) (fun c_1 => ?_)
  · skip
    refine lv_iload_n C.1.1 C.1.2.1 dX6_above_9 rfl (lv_at hl 0 rfl) ?_
    refine lv_iconst (v := 4) C.1.1 C.1.2.1 dX6_above_10 rfl ?_
    refine lv_icmp_ne (tgt := 18) C.1.1 C.1.2.1 dX6_above_11 (by decide) (fun c_2 => ?_) (fun c_2 => ?_)
    · skip
      refine lv_iload_n C.1.1 C.1.2.1 dX6_above_18 rfl (lv_at hl 0 rfl) ?_
      refine lv_bipush (v := 6) C.1.1 C.1.2.1 dX6_above_19 rfl ?_
      refine lv_icmp_ne (tgt := 28) C.1.1 C.1.2.1 dX6_above_21 (by decide) (fun c_3 => ?_) (fun c_3 => ?_)
      · skip
        refine lv_iconst (v := 0) C.1.1 C.1.2.1 dX6_above_28 rfl ?_
        exact t_F C rfl hP hS (by rw [aboveF, if_neg c_1, if_neg c_2, if_neg c_3]) rfl dX6_above_29
      · skip
        refine lv_iconst (v := 2) C.1.1 C.1.2.1 dX6_above_24 rfl ?_
        refine lv_goto (tgt := 29) C.1.1 C.1.2.1 dX6_above_25 (by decide) ?_
        exact t_F C rfl hP hS (by rw [aboveF, if_neg c_1, if_neg c_2, if_pos c_3]) rfl dX6_above_29
    · skip
      refine lv_iconst (v := 3) C.1.1 C.1.2.1 dX6_above_14 rfl ?_
      refine lv_goto (tgt := 29) C.1.1 C.1.2.1 dX6_above_15 (by decide) ?_
      exact t_F C rfl hP hS (by rw [aboveF, if_neg c_1, if_pos c_2]) rfl dX6_above_29
  · skip
    refine lv_iconst (v := 1) C.1.1 C.1.2.1 dX6_above_5 rfl ?_
    refine lv_goto (tgt := 29) C.1.1 C.1.2.1 dX6_above_6 (by decide) ?_
    exact t_F C rfl hP hS (by rw [aboveF, if_pos c_1]) rfl dX6_above_29

abbrev rmX6_draw : Room := { frames := 0, cells := 0, slots := 0, locals := 0 }
set_option maxHeartbeats 4000000 in
set_option maxRecDepth 100000 in
theorem kX6_draw (l : Launch) (g : GG) (n : Nat) (v : SV)  : Met l yX6_draw wsX6_draw rmX6_draw (PW g n v [.ref (gA g 53)]) (QF g n (ushF (lcgF (v.1 54 2)) 8) (up v 54 2 (lcgF (v.1 54 2)))) 0 0 (wA g n) := by
  refine Met.begin RX6 rfl (by decide) rfl (Nat.le_of_ble_eq_true rfl) ?_
  intro p e s m args below meth c ls ha C hP hS hl
  have hn : 64 ≤ n := C.2.1.1.2.1
  have hi6 : ∀ w ∈ u_ws RX6 TX6 17, w ∈ wsX6_draw := by decide +kernel
  have hl : lv_has ls 1 [(0, .ref (gA g 53))] := hl
  refine lv_aload_n C.1.1 C.1.2.1 dX6_draw_0 rfl (lv_at hl 0 rfl) ?_
  refine r_get C hP 53 6 (Nat.lt_of_lt_of_le (by decide) hn) rfl (by decide) rfl hi6 0 (by decide) (List.mem_of_getElem? (i := 1) rfl) rfl (val := .ref (gA g 54)) rfl dX6_draw_1 ?_
  refine lv_iconst (v := 2) C.1.1 C.1.2.1 dX6_draw_4 rfl ?_
  refine lv_aload_n C.1.1 C.1.2.1 dX6_draw_5 rfl (lv_at hl 0 rfl) ?_
  refine r_get C hP 53 6 (Nat.lt_of_lt_of_le (by decide) hn) rfl (by decide) rfl hi6 0 (by decide) (List.mem_of_getElem? (i := 1) rfl) rfl (val := .ref (gA g 54)) rfl dX6_draw_6 ?_
  refine lv_iconst (v := 2) C.1.1 C.1.2.1 dX6_draw_9 rfl ?_
  refine r_iald C hP 54 (Nat.lt_of_lt_of_le (by decide) hn) rfl 2 rfl (N := 83) rfl (by decide) (by omega) dX6_draw_10 ?_
  refine lv_ldc (v := 1103515245) C.1.1 C.1.2.1 C.1.2.2.2.1 (C.1.2.2.2.2 _ (List.mem_of_getElem? (i := 2) rfl)) dX6_draw_11 ?_
  refine lv_imul C.1.1 C.1.2.1 dX6_draw_13 ?_
  refine lv_sipush (v := 12345) C.1.1 C.1.2.1 dX6_draw_14 rfl ?_
  refine lv_iadd C.1.1 C.1.2.1 dX6_draw_17 ?_
  refine r_iast C hP hS 54 (Nat.lt_of_lt_of_le (by decide) hn) rfl 2 rfl (N := 83) rfl (by decide) (by omega) dX6_draw_18 (fun H locs hP hS => ?_)
  obtain ⟨v_1, hv_1⟩ : ∃ zz, zz = up v 54 2 (((v.1 54 2) * 1103515245) + 12345) := ⟨_, rfl⟩
  rw [← hv_1] at hP
  refine lv_aload_n C.1.1 C.1.2.1 dX6_draw_19 rfl (lv_at hl 0 rfl) ?_
  refine r_get C hP 53 6 (Nat.lt_of_lt_of_le (by decide) hn) rfl (by decide) rfl hi6 0 (by decide) (List.mem_of_getElem? (i := 1) rfl) rfl (val := .ref (gA g 54)) rfl dX6_draw_20 ?_
  refine lv_iconst (v := 2) C.1.1 C.1.2.1 dX6_draw_23 rfl ?_
  refine r_iald C hP 54 (Nat.lt_of_lt_of_le (by decide) hn) rfl 2 rfl (N := 83) rfl (by decide) (by omega) dX6_draw_24 ?_
  refine lv_bipush (v := 8) C.1.1 C.1.2.1 dX6_draw_25 rfl ?_
  refine lv_iushr (v := ((v_1.1 54 2).toUInt32 >>> ((8 : Int32).toUInt32 &&& Int32.toUInt32 31)).toInt32) C.1.1 C.1.2.1 dX6_draw_27 rfl ?_
  exact t_F C rfl hP hS (by rw [hv_1]; rfl) (by rw [hv_1]; rfl) dX6_draw_28

abbrev rmX6_status : Room := { frames := 1, cells := 0, slots := 0, locals := 25 }
set_option maxHeartbeats 4000000 in
set_option maxRecDepth 100000 in
theorem kX6_status (l : Launch) (g : GG) (n : Nat) (v : SV) (x : Int32)  : Met l yX6_status wsX6_status rmX6_status (PW g n v [.ref (gA g 53), .int x]) (QF g n ((statusM v x).1) ((statusM v x).2)) 0 0 (wA g n) := by
  refine Met.begin RX6 rfl (by decide) rfl (Nat.le_of_ble_eq_true rfl) ?_
  intro p e s m args below meth c ls ha C hP hS hl
  have hn : 64 ≤ n := C.2.1.1.2.1
  have hi6 : ∀ w ∈ u_ws RX6 TX6 17, w ∈ wsX6_status := by decide +kernel
  have hl : lv_has ls 4 [(0, .ref (gA g 53)), (1, .int x)] := hl
  refine lv_iload_n C.1.1 C.1.2.1 dX6_status_0 rfl (lv_at hl 1 rfl) ?_
  refine lv_i2l (v := x.toInt64) C.1.1 C.1.2.1 dX6_status_1 rfl ?_
  refine lv_ldc2 (v := (-1)) C.1.1 C.1.2.1 C.1.2.2.2.1 (C.1.2.2.2.2 _ (List.mem_of_getElem? (i := 1) rfl)) dX6_status_2 ?_
  refine lv_ldc2 (v := 6) C.1.1 C.1.2.1 C.1.2.2.2.1 (C.1.2.2.2.2 _ (List.mem_of_getElem? (i := 2) rfl)) dX6_status_5 ?_
  refine a_B hS (run_S C hP hS hl.1 [.long x.toInt64, .long (-1), .long 6] (kX6_in l g n v x.toInt64 (-1) 6) gX6_status_X6_in hdX6_in rfl ⟨rfl, rfl⟩ ⟨Nat.le_of_ble_eq_true rfl, Nat.le_of_ble_eq_true rfl⟩ rfl [] rfl (Nat.le_of_ble_eq_true rfl) dX6_status_8 ⟨Nat.zero_le _, Nat.zero_le _⟩) (fun b_1 H locs hP hS => ?_) (fun b_1 H locs hP hS => ?_)
  · skip
    refine lv_if_ne (tgt := 20) C.1.1 C.1.2.1 dX6_status_11 (by decide) (fun _ => ?_) (fun c_2 => absurd c_2 (by decide))
    refine lv_iconst (v := 0) C.1.1 C.1.2.1 dX6_status_20 rfl ?_
    refine lv_istore_n (lv' := [(2, .int 0), (0, .ref (gA g 53)), (1, .int x)]) C.1.1 C.1.2.1 dX6_status_21 rfl hl (by decide) rfl (fun ls hl => ?_)
    refine lv_iconst (v := 0) C.1.1 C.1.2.1 dX6_status_22 rfl ?_
    refine lv_istore_n (lv' := [(3, .int 0), (2, .int 0), (0, .ref (gA g 53)), (1, .int x)]) C.1.1 C.1.2.1 dX6_status_23 rfl hl (by decide) rfl (fun ls hl => ?_)
    have lp_24 : ∀ (k_24 i : Nat), i ≤ 7 → 7 + 1 ≤ i + k_24 → ∀ (H : Heap) (locs : List Loc) (ls : Array Slot), va_P g.1 vwCl (wl g n v) H → va_S (wA g n) s.heap H locs → lv_has ls 4 [(0, .ref (gA g 53)), (1, .int x), (2, .int (statM (v.1 58) i)), (3, .int (nI i))] → W p l e rmX6_status s m args below meth c H locs 0 0 (MQ below (QF g n ((statusM v x).1) ((statusM v x).2)) args s 0 0 (wA g n)) (F0 m 24 ls []) := by
      clear hP hS hl
      intro k_24
      induction k_24 with
      | zero => exact fun i h1 h2 => absurd h2 (by omega)
      | succ k_24 ih_24 =>
        intro i hi_24 hk_24 H locs ls hP hS hl
        refine lv_iload_n C.1.1 C.1.2.1 dX6_status_24 rfl (lv_at hl 3 rfl) ?_
        refine lv_bipush (v := 7) C.1.1 C.1.2.1 dX6_status_25 rfl ?_
        refine lv_icmp_ge (tgt := 45) C.1.1 C.1.2.1 dX6_status_27 (by decide) (fun c_3 => ?_) (fun c_3 => ?_)
        · rw [show (7 ≤ nI i) = (7 ≤ i) from propext (nI_leI (a := 7) (b := i) (by omega) (by omega))] at c_3
          have hi7 : i = 7 := by omega
          subst hi7
          refine lv_iload_n C.1.1 C.1.2.1 dX6_status_45 rfl (lv_at hl 1 rfl) ?_
          refine lv_if_ge (tgt := 53) C.1.1 C.1.2.1 dX6_status_46 (by decide) (fun c_4 => ?_) (fun c_4 => ?_)
          · skip
            obtain ⟨jx, hjx, rfl⟩ := stat_ix b_1 c_4
            refine lv_aload_n C.1.1 C.1.2.1 dX6_status_53 rfl (lv_at hl 0 rfl) ?_
            refine r_get C hP 53 6 (Nat.lt_of_lt_of_le (by decide) hn) rfl (by decide) rfl hi6 5 (by decide) (List.mem_of_getElem? (i := 3) rfl) rfl (val := .ref (gA g 58)) rfl dX6_status_54 ?_
            refine lv_iload_n C.1.1 C.1.2.1 dX6_status_57 rfl (lv_at hl 1 rfl) ?_
            refine r_iald C hP 58 (Nat.lt_of_lt_of_le (by decide) hn) rfl jx rfl (N := 7) rfl (by decide) (by omega) dX6_status_58 ?_
            exact t_F C rfl hP hS (by rw [statusM, cif_pos b_1, if_pos c_4, tn_nI (show jx < 2 ^ 31 by omega)]) (by rw [statusM, cif_pos b_1, if_pos c_4]) dX6_status_59
          · skip
            refine lv_iload_n C.1.1 C.1.2.1 dX6_status_49 rfl (lv_at hl 2 rfl) ?_
            refine lv_goto (tgt := 59) C.1.1 C.1.2.1 dX6_status_50 (by decide) ?_
            exact t_F C rfl hP hS (by rw [statusM, cif_pos b_1, if_neg c_4]) (by rw [statusM, cif_pos b_1, if_neg c_4]) dX6_status_59
        · rw [show (7 ≤ nI i) = (7 ≤ i) from propext (nI_leI (a := 7) (b := i) (by omega) (by omega))] at c_3
          refine lv_iload_n C.1.1 C.1.2.1 dX6_status_30 rfl (lv_at hl 2 rfl) ?_
          refine lv_aload_n C.1.1 C.1.2.1 dX6_status_31 rfl (lv_at hl 0 rfl) ?_
          refine r_get C hP 53 6 (Nat.lt_of_lt_of_le (by decide) hn) rfl (by decide) rfl hi6 5 (by decide) (List.mem_of_getElem? (i := 3) rfl) rfl (val := .ref (gA g 58)) rfl dX6_status_32 ?_
          refine lv_iload_n C.1.1 C.1.2.1 dX6_status_35 rfl (lv_at hl 3 rfl) ?_
          refine r_iald C hP 58 (Nat.lt_of_lt_of_le (by decide) hn) rfl i rfl (N := 7) rfl (by decide) (by omega) dX6_status_36 ?_
          refine lv_iadd C.1.1 C.1.2.1 dX6_status_37 ?_
          refine lv_istore_n (lv' := [(2, .int ((statM (v.1 58) i) + (v.1 58 i))), (0, .ref (gA g 53)), (1, .int x), (3, .int (nI i))]) C.1.1 C.1.2.1 dX6_status_38 rfl hl (by decide) rfl (fun ls hl => ?_)
          refine lv_iinc (v := nI (i + 1)) (lv' := [(3, .int (nI (i + 1))), (2, .int ((statM (v.1 58) i) + (v.1 58 i))), (0, .ref (gA g 53)), (1, .int x)]) C.1.1 C.1.2.1 dX6_status_39 hl (k := 3) rfl (nI_1 i) (by decide) rfl (fun ls hl => ?_)
          refine lv_goto (tgt := 24) C.1.1 C.1.2.1 dX6_status_42 (by decide) ?_
          exact ih_24 (i + 1) (by omega) (by omega) _ _ _ hP hS (lv_sub hl [2, 3, 1, 0] rfl)
    exact lp_24 (7 + 1) 0 (Nat.zero_le _) (by omega) _ _ _ hP hS (lv_sub hl [2, 3, 1, 0] rfl)
  · skip
    refine lv_if_ne (tgt := 20) C.1.1 C.1.2.1 dX6_status_11 (by decide) (fun c_5 => absurd c_5 (by decide)) (fun _ => ?_)
    refine lv_aload_n C.1.1 C.1.2.1 dX6_status_14 rfl (lv_at hl 0 rfl) ?_
    refine lv_iconst (v := 0) C.1.1 C.1.2.1 dX6_status_15 rfl ?_
    refine a_F hS (run_V C hP hS hl.1 53 6 (Nat.lt_of_lt_of_le (by decide) hn) rfl (by decide) rfl [.int 0] (kX6_finds l g n v 0 (by decide)) gX6_status_X6_finds rfl hdX6_finds rfl ⟨rfl, rfl⟩ ⟨Nat.le_of_ble_eq_true rfl, Nat.le_of_ble_eq_true rfl⟩ rfl [] rfl (Nat.le_of_ble_eq_true rfl) dX6_status_16 ⟨Nat.zero_le _, Nat.zero_le _⟩) (fun H locs hP hS => ?_)
    obtain ⟨v_6, hv_6⟩ : ∃ zz, zz = fnd v 0 := ⟨_, rfl⟩
    rw [← hv_6] at hP
    exact t_F C rfl hP hS (by (rw [statusM]; rw [cif_neg b_1]) <;> try simp only [fdM, upw_same, eq_self, if_true, if_false, ite_true, ite_false, ↓reduceIte, hv_6]) (by (rw [statusM]; rw [cif_neg b_1]) <;> try simp only [fdM, upw_same, eq_self, if_true, if_false, ite_true, ite_false, ↓reduceIte, hv_6]) dX6_status_19

