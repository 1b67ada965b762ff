abbrev rmX6_write : Room := { frames := 3, cells := 0, slots := 0, locals := 66 }
set_option maxHeartbeats 4000000 in
set_option maxRecDepth 100000 in
theorem kX6_write (l : Launch) (g : GG) (n : Nat) (v : SV) (x y z : Int32) (hSz : ∀ i, i < 4 → ∃ z, z ≤ 40 ∧ v.1 61 i = nI z) : Met l yX6_write wsX6_write rmX6_write (PW g n v [.ref (gA g 53), .int x, .int y, .int z]) (QF g n ((writeM v x y z).1) ((writeM v x y z).2)) 0 0 (wA g n) := by
  refine Met.begin RX6 rfl (by decide) rfl (Nat.le_of_ble_eq_true rfl) ?_
  intro p e s m args below meth c ls ha C hP hS hl
  have hn : 64 ≤ n := C.2.1.1.2.1
  have hi6 : ∀ w ∈ u_ws RX6 TX6 17, w ∈ wsX6_write := by decide +kernel
  have hl : lv_has ls 5 [(0, .ref (gA g 53)), (1, .int x), (2, .int y), (3, .int z)] := hl
  refine lv_aload_n C.1.1 C.1.2.1 dX6_write_0 rfl (lv_at hl 0 rfl) ?_
  refine lv_iload_n C.1.1 C.1.2.1 dX6_write_1 rfl (lv_at hl 1 rfl) ?_
  refine a_F hS (run_V C hP hS hl.1 53 6 (Nat.lt_of_lt_of_le (by decide) hn) rfl (by decide) rfl [.int x] (kX6_whyNone l g n v x) gX6_write_X6_whyNone rfl hdX6_whyNone rfl ⟨rfl, rfl⟩ ⟨Nat.le_of_ble_eq_true rfl, Nat.le_of_ble_eq_true rfl⟩ rfl [] rfl (Nat.le_of_ble_eq_true rfl) dX6_write_2 ⟨Nat.zero_le _, Nat.zero_le _⟩) (fun H locs hP hS => ?_)
  refine lv_istore (lv' := [(4, .int (whyF v x)), (0, .ref (gA g 53)), (1, .int x), (2, .int y), (3, .int z)]) C.1.1 C.1.2.1 dX6_write_5 hl (by decide) rfl (fun ls hl => ?_)
  refine lv_iload C.1.1 C.1.2.1 dX6_write_7 (lv_at hl 0 rfl) ?_
  refine lv_if_ge (tgt := 34) C.1.1 C.1.2.1 dX6_write_9 (by decide) (fun c_1 => ?_) (fun c_1 => ?_)
  · skip
    have c_1 := fa_le_nlt c_1
    obtain ⟨jw, hjw, ew⟩ := why_no c_1
    rw [ew] at hl
    refine lv_iload C.1.1 C.1.2.1 dX6_write_34 (lv_at hl 0 rfl) ?_
    refine lv_istore (lv' := [(4, .int (nI jw)), (0, .ref (gA g 53)), (1, .int x), (2, .int y), (3, .int z)]) C.1.1 C.1.2.1 dX6_write_36 hl (by decide) rfl (fun ls hl => ?_)
    refine lv_iload C.1.1 C.1.2.1 dX6_write_38 (lv_at hl 0 rfl) ?_
    refine lv_if_lt (tgt := 50) C.1.1 C.1.2.1 dX6_write_40 (by decide) (fun h9 => absurd h9 (nI_pos (n := jw) (by omega))) (fun _ => ?_)
    refine lv_aload_n C.1.1 C.1.2.1 dX6_write_43 rfl (lv_at hl 1 rfl) ?_
    refine lv_iload C.1.1 C.1.2.1 dX6_write_44 (lv_at hl 0 rfl) ?_
    refine a_F hS (run_V C hP hS hl.1 53 6 (Nat.lt_of_lt_of_le (by decide) hn) rfl (by decide) rfl [.int (nI jw)] (kX6_finds l g n v jw (by omega)) gX6_write_X6_finds rfl hdX6_finds rfl ⟨rfl, rfl⟩ ⟨Nat.le_of_ble_eq_true rfl, Nat.le_of_ble_eq_true rfl⟩ rfl [] rfl (Nat.le_of_ble_eq_true rfl) dX6_write_46 ⟨Nat.zero_le _, Nat.zero_le _⟩) (fun H locs hP hS => ?_)
    obtain ⟨v_2, hv_2⟩ : ∃ zz, zz = fnd v jw := ⟨_, rfl⟩
    rw [← hv_2] at hP
    exact t_F C rfl hP hS (by rw [writeM, if_neg c_1, ew, fdW, tn_nI (show jw < 2 ^ 31 by omega)]; rfl) (by rw [writeM, if_neg c_1, ew, fdW, tn_nI (show jw < 2 ^ 31 by omega), hv_2]; rfl) dX6_write_49
  · skip
    have c_1 := fa_nle c_1
    obtain ⟨jx, hjx, rfl, hbx⟩ := why_ok c_1
    obtain ⟨Z, hZ, eZ⟩ := hSz jx hjx
    refine lv_iload_n C.1.1 C.1.2.1 dX6_write_12 rfl (lv_at hl 3 rfl) ?_
    refine lv_i2l (v := y.toInt64) C.1.1 C.1.2.1 dX6_write_13 rfl ?_
    refine lv_lconst (v := 0) C.1.1 C.1.2.1 dX6_write_14 rfl ?_
    refine lv_aload_n C.1.1 C.1.2.1 dX6_write_15 rfl (lv_at hl 1 rfl) ?_
    refine r_get C hP 53 6 (Nat.lt_of_lt_of_le (by decide) hn) rfl (by decide) rfl hi6 14 (by decide) (List.mem_of_getElem? (i := 1) rfl) rfl (val := .ref (gA g 61)) rfl dX6_write_16 ?_
    refine lv_iload_n C.1.1 C.1.2.1 dX6_write_19 rfl (lv_at hl 2 rfl) ?_
    refine r_iald C hP 61 (Nat.lt_of_lt_of_le (by decide) hn) rfl jx rfl (N := 4) rfl (by decide) (by omega) dX6_write_20 ?_
    refine lv_topE (nI Z) eZ ?_
    refine lv_iconst (v := 1) C.1.1 C.1.2.1 dX6_write_21 rfl ?_
    refine lv_isub C.1.1 C.1.2.1 dX6_write_22 ?_
    refine lv_i2l (v := ((nI Z) - 1).toInt64) C.1.1 C.1.2.1 dX6_write_23 rfl ?_
    refine a_B hS (run_S C hP hS hl.1 [.long y.toInt64, .long 0, .long (((nI Z) - 1).toInt64)] (kX6_in l g n v y.toInt64 0 (((nI Z) - 1).toInt64)) gX6_write_X6_in hdX6_in rfl ⟨rfl, rfl⟩ ⟨Nat.le_of_ble_eq_true rfl, Nat.le_of_ble_eq_true rfl⟩ rfl [] rfl (Nat.le_of_ble_eq_true rfl) dX6_write_24 ⟨Nat.zero_le _, Nat.zero_le _⟩) (fun b_3 H locs hP hS => ?_) (fun b_3 H locs hP hS => ?_)
    · skip
      obtain ⟨jy, hjy, rfl⟩ := (in_iff Z (by omega) (nat_pred40 Z hZ)).mp b_3
      refine lv_if_ne (tgt := 34) C.1.1 C.1.2.1 dX6_write_27 (by decide) (fun _ => ?_) (fun c_4 => absurd c_4 (by decide))
      refine lv_iload C.1.1 C.1.2.1 dX6_write_34 (lv_at hl 0 rfl) ?_
      refine lv_istore (lv' := [(4, .int (whyF v (nI jx))), (0, .ref (gA g 53)), (1, .int (nI jx)), (2, .int (nI jy)), (3, .int z)]) C.1.1 C.1.2.1 dX6_write_36 hl (by decide) rfl (fun ls hl => ?_)
      refine lv_iload C.1.1 C.1.2.1 dX6_write_38 (lv_at hl 0 rfl) ?_
      refine lv_if_lt (tgt := 50) C.1.1 C.1.2.1 dX6_write_40 (by decide) (fun _ => ?_) (fun h9 => absurd c_1 h9)
      refine lv_aload_n C.1.1 C.1.2.1 dX6_write_50 rfl (lv_at hl 1 rfl) ?_
      refine r_get C hP 53 6 (Nat.lt_of_lt_of_le (by decide) hn) rfl (by decide) rfl hi6 15 (by decide) (List.mem_of_getElem? (i := 2) rfl) rfl (val := .ref (gA g 62)) rfl dX6_write_51 ?_
      refine lv_bipush (v := 40) C.1.1 C.1.2.1 dX6_write_54 rfl ?_
      refine lv_iload_n C.1.1 C.1.2.1 dX6_write_56 rfl (lv_at hl 2 rfl) ?_
      refine lv_imul C.1.1 C.1.2.1 dX6_write_57 ?_
      refine lv_topE (nI (40 * jx)) (pk_mul 40 jx) ?_
      refine lv_iload_n C.1.1 C.1.2.1 dX6_write_58 rfl (lv_at hl 3 rfl) ?_
      refine lv_iadd C.1.1 C.1.2.1 dX6_write_59 ?_
      refine lv_topE (nI ((40 * jx) + jy)) (nI_add (40 * jx) jy) ?_
      refine lv_aload_n C.1.1 C.1.2.1 dX6_write_60 rfl (lv_at hl 1 rfl) ?_
      refine r_get C hP 53 6 (Nat.lt_of_lt_of_le (by decide) hn) rfl (by decide) rfl hi6 13 (by decide) (List.mem_of_getElem? (i := 3) rfl) rfl (val := .ref (gA g 60)) rfl dX6_write_61 ?_
      refine lv_iload_n C.1.1 C.1.2.1 dX6_write_64 rfl (lv_at hl 2 rfl) ?_
      refine r_iald C hP 60 (Nat.lt_of_lt_of_le (by decide) hn) rfl jx rfl (N := 4) rfl (by decide) (by omega) dX6_write_65 ?_
      refine lv_bipush (v := 8) C.1.1 C.1.2.1 dX6_write_66 rfl ?_
      refine lv_icmp_ne (tgt := 76) C.1.1 C.1.2.1 dX6_write_68 (by decide) (fun c_5 => ?_) (fun c_5 => ?_)
      · skip
        refine lv_aload_n C.1.1 C.1.2.1 dX6_write_76 rfl (lv_at hl 1 rfl) ?_
        refine r_get C hP 53 6 (Nat.lt_of_lt_of_le (by decide) hn) rfl (by decide) rfl hi6 13 (by decide) (List.mem_of_getElem? (i := 3) rfl) rfl (val := .ref (gA g 60)) rfl dX6_write_77 ?_
        refine lv_iload_n C.1.1 C.1.2.1 dX6_write_80 rfl (lv_at hl 2 rfl) ?_
        refine r_iald C hP 60 (Nat.lt_of_lt_of_le (by decide) hn) rfl jx rfl (N := 4) rfl (by decide) (by omega) dX6_write_81 ?_
        refine lv_bipush (v := 16) C.1.1 C.1.2.1 dX6_write_82 rfl ?_
        refine lv_icmp_ne (tgt := 92) C.1.1 C.1.2.1 dX6_write_84 (by decide) (fun c_6 => ?_) (fun c_6 => ?_)
        · skip
          refine lv_iload_n C.1.1 C.1.2.1 dX6_write_92 rfl (lv_at hl 4 rfl) ?_
          refine r_iast C hP hS 62 (Nat.lt_of_lt_of_le (by decide) hn) rfl ((40 * jx) + jy) rfl (N := 160) rfl (by decide) (by omega) dX6_write_93 (fun H locs hP hS => ?_)
          obtain ⟨v_7, hv_7⟩ : ∃ zz, zz = up v 62 ((40 * jx) + jy) z := ⟨_, rfl⟩
          rw [← hv_7] at hP
          refine lv_iconst (v := 1) C.1.1 C.1.2.1 dX6_write_94 rfl ?_
          exact t_F C rfl hP hS (by rw [writeM, if_pos c_1, tn_nI (show jx < 2 ^ 31 by omega), eZ, tn_nI (show Z < 2 ^ 31 by omega), cif_pos ⟨jy, hjy, rfl⟩, tn_nI (show jy < 2 ^ 31 by omega)]) (by rw [writeM, if_pos c_1, tn_nI (show jx < 2 ^ 31 by omega), eZ, tn_nI (show Z < 2 ^ 31 by omega), cif_pos ⟨jy, hjy, rfl⟩, tn_nI (show jy < 2 ^ 31 by omega)]; rw [cutF, if_neg c_5, if_neg c_6, hv_7]) dX6_write_95
        · skip
          refine lv_iload_n C.1.1 C.1.2.1 dX6_write_87 rfl (lv_at hl 4 rfl) ?_
          refine lv_i2s (v := z.toInt16.toInt32) C.1.1 C.1.2.1 dX6_write_88 rfl ?_
          refine lv_goto (tgt := 93) C.1.1 C.1.2.1 dX6_write_89 (by decide) ?_
          refine r_iast C hP hS 62 (Nat.lt_of_lt_of_le (by decide) hn) rfl ((40 * jx) + jy) rfl (N := 160) rfl (by decide) (by omega) dX6_write_93 (fun H locs hP hS => ?_)
          obtain ⟨v_8, hv_8⟩ : ∃ zz, zz = up v 62 ((40 * jx) + jy) z.toInt16.toInt32 := ⟨_, rfl⟩
          rw [← hv_8] at hP
          refine lv_iconst (v := 1) C.1.1 C.1.2.1 dX6_write_94 rfl ?_
          exact t_F C rfl hP hS (by rw [writeM, if_pos c_1, tn_nI (show jx < 2 ^ 31 by omega), eZ, tn_nI (show Z < 2 ^ 31 by omega), cif_pos ⟨jy, hjy, rfl⟩, tn_nI (show jy < 2 ^ 31 by omega)]) (by rw [writeM, if_pos c_1, tn_nI (show jx < 2 ^ 31 by omega), eZ, tn_nI (show Z < 2 ^ 31 by omega), cif_pos ⟨jy, hjy, rfl⟩, tn_nI (show jy < 2 ^ 31 by omega)]; rw [cutF, if_neg c_5, if_pos c_6, hv_8]) dX6_write_95
      · skip
        refine lv_iload_n C.1.1 C.1.2.1 dX6_write_71 rfl (lv_at hl 4 rfl) ?_
        refine lv_i2b (v := z.toInt8.toInt32) C.1.1 C.1.2.1 dX6_write_72 rfl ?_
        refine lv_goto (tgt := 93) C.1.1 C.1.2.1 dX6_write_73 (by decide) ?_
        refine r_iast C hP hS 62 (Nat.lt_of_lt_of_le (by decide) hn) rfl ((40 * jx) + jy) rfl (N := 160) rfl (by decide) (by omega) dX6_write_93 (fun H locs hP hS => ?_)
        obtain ⟨v_9, hv_9⟩ : ∃ zz, zz = up v 62 ((40 * jx) + jy) z.toInt8.toInt32 := ⟨_, rfl⟩
        rw [← hv_9] at hP
        refine lv_iconst (v := 1) C.1.1 C.1.2.1 dX6_write_94 rfl ?_
        exact t_F C rfl hP hS (by rw [writeM, if_pos c_1, tn_nI (show jx < 2 ^ 31 by omega), eZ, tn_nI (show Z < 2 ^ 31 by omega), cif_pos ⟨jy, hjy, rfl⟩, tn_nI (show jy < 2 ^ 31 by omega)]) (by rw [writeM, if_pos c_1, tn_nI (show jx < 2 ^ 31 by omega), eZ, tn_nI (show Z < 2 ^ 31 by omega), cif_pos ⟨jy, hjy, rfl⟩, tn_nI (show jy < 2 ^ 31 by omega)]; rw [cutF, if_pos c_5, hv_9]) dX6_write_95
    · skip
      have b_3 := fun h => b_3 ((in_iff Z (by omega) (nat_pred40 Z hZ)).mpr h)
      refine lv_if_ne (tgt := 34) C.1.1 C.1.2.1 dX6_write_27 (by decide) (fun c_10 => absurd c_10 (by decide)) (fun _ => ?_)
      refine lv_iconst (v := 0) C.1.1 C.1.2.1 dX6_write_30 rfl ?_
      refine lv_goto (tgt := 36) C.1.1 C.1.2.1 dX6_write_31 (by decide) ?_
      refine lv_istore (lv' := [(4, .int 0), (0, .ref (gA g 53)), (1, .int (nI jx)), (2, .int y), (3, .int z)]) C.1.1 C.1.2.1 dX6_write_36 hl (by decide) rfl (fun ls hl => ?_)
      refine lv_iload C.1.1 C.1.2.1 dX6_write_38 (lv_at hl 0 rfl) ?_
      refine lv_if_lt (tgt := 50) C.1.1 C.1.2.1 dX6_write_40 (by decide) (fun h9 => absurd h9 (nI_pos (n := 0) (by omega))) (fun _ => ?_)
      refine lv_aload_n C.1.1 C.1.2.1 dX6_write_43 rfl (lv_at hl 1 rfl) ?_
      refine lv_iload C.1.1 C.1.2.1 dX6_write_44 (lv_at hl 0 rfl) ?_
      refine a_F hS (run_V C hP hS hl.1 53 6 (Nat.lt_of_lt_of_le (by decide) hn) rfl (by decide) rfl [.int 0] (kX6_finds l g n v 0 (by decide)) gX6_write_X6_finds rfl hdX6_finds rfl ⟨rfl, rfl⟩ ⟨Nat.le_of_ble_eq_true rfl, Nat.le_of_ble_eq_true rfl⟩ rfl [] rfl (Nat.le_of_ble_eq_true rfl) dX6_write_46 ⟨Nat.zero_le _, Nat.zero_le _⟩) (fun H locs hP hS => ?_)
      obtain ⟨v_11, hv_11⟩ : ∃ zz, zz = fnd v 0 := ⟨_, rfl⟩
      rw [← hv_11] at hP
      exact t_F C rfl hP hS (by rw [writeM, if_pos c_1, tn_nI (show jx < 2 ^ 31 by omega), eZ, tn_nI (show Z < 2 ^ 31 by omega), cif_neg b_3]; rfl) (by rw [writeM, if_pos c_1, tn_nI (show jx < 2 ^ 31 by omega), eZ, tn_nI (show Z < 2 ^ 31 by omega), cif_neg b_3, hv_11]; rfl) dX6_write_49

abbrev rmX6_sheet : Room := { frames := 2, cells := 0, slots := 0, locals := 45 }
set_option maxHeartbeats 4000000 in
set_option maxRecDepth 100000 in
theorem kX6_sheet (l : Launch) (g : GG) (n : Nat) (v : SV) (x y z : Int32)  : Met l yX6_sheet wsX6_sheet rmX6_sheet (PW g n v [.ref (gA g 53), .int x, .int y, .int z]) (QF g n ((sheetM v x y z).1) ((sheetM v x y z).2)) 0 0 (wA g n) := by
  refine Met.begin RX6 rfl (by decide) rfl (Nat.le_of_ble_eq_true rfl) ?_
  intro p e s m args below meth c ls ha C hP hS hl
  have hn : 64 ≤ n := C.2.1.1.2.1
  have hi6 : ∀ w ∈ u_ws RX6 TX6 17, w ∈ wsX6_sheet := by decide +kernel
  have hl : lv_has ls 5 [(0, .ref (gA g 53)), (1, .int x), (2, .int y), (3, .int z)] := hl
  refine lv_iload_n C.1.1 C.1.2.1 dX6_sheet_0 rfl (lv_at hl 1 rfl) ?_
  refine a_B hS (run_S C hP hS hl.1 [.int x] (kX6_isSheet l g n v x) gX6_sheet_X6_isSheet hdX6_isSheet rfl ⟨rfl, rfl⟩ ⟨Nat.le_of_ble_eq_true rfl, Nat.le_of_ble_eq_true rfl⟩ rfl [] rfl (Nat.le_of_ble_eq_true rfl) dX6_sheet_1 ⟨Nat.zero_le _, Nat.zero_le _⟩) (fun b_1 H locs hP hS => ?_) (fun b_1 H locs hP hS => ?_)
  · skip
    obtain ⟨jx, hjx, rfl⟩ := b_1
    refine lv_if_eq (tgt := 29) C.1.1 C.1.2.1 dX6_sheet_4 (by decide) (fun c_2 => absurd c_2 (by decide)) (fun _ => ?_)
    refine lv_iload_n C.1.1 C.1.2.1 dX6_sheet_7 rfl (lv_at hl 2 rfl) ?_
    refine lv_if_eq (tgt := 35) C.1.1 C.1.2.1 dX6_sheet_8 (by decide) (fun c_3 => ?_) (fun c_3 => ?_)
    · skip
      refine lv_iload_n C.1.1 C.1.2.1 dX6_sheet_35 rfl (lv_at hl 3 rfl) ?_
      refine lv_if_ge (tgt := 46) C.1.1 C.1.2.1 dX6_sheet_36 (by decide) (fun c_4 => ?_) (fun c_4 => ?_)
      · skip
        refine lv_iload_n C.1.1 C.1.2.1 dX6_sheet_46 rfl (lv_at hl 3 rfl) ?_
        refine lv_bipush (v := 40) C.1.1 C.1.2.1 dX6_sheet_47 rfl ?_
        refine lv_icmp_le (tgt := 58) C.1.1 C.1.2.1 dX6_sheet_49 (by decide) (fun c_5 => ?_) (fun c_5 => ?_)
        · skip
          refine lv_aload_n C.1.1 C.1.2.1 dX6_sheet_58 rfl (lv_at hl 0 rfl) ?_
          refine r_get C hP 53 6 (Nat.lt_of_lt_of_le (by decide) hn) rfl (by decide) rfl hi6 13 (by decide) (List.mem_of_getElem? (i := 1) rfl) rfl (val := .ref (gA g 60)) rfl dX6_sheet_59 ?_
          refine lv_iload_n C.1.1 C.1.2.1 dX6_sheet_62 rfl (lv_at hl 1 rfl) ?_
          refine lv_iload_n C.1.1 C.1.2.1 dX6_sheet_63 rfl (lv_at hl 2 rfl) ?_
          refine r_iast C hP hS 60 (Nat.lt_of_lt_of_le (by decide) hn) rfl jx rfl (N := 4) rfl (by decide) (by omega) dX6_sheet_64 (fun H locs hP hS => ?_)
          obtain ⟨v_6, hv_6⟩ : ∃ zz, zz = up v 60 jx y := ⟨_, rfl⟩
          rw [← hv_6] at hP
          refine lv_aload_n C.1.1 C.1.2.1 dX6_sheet_65 rfl (lv_at hl 0 rfl) ?_
          refine r_get C hP 53 6 (Nat.lt_of_lt_of_le (by decide) hn) rfl (by decide) rfl hi6 14 (by decide) (List.mem_of_getElem? (i := 2) rfl) rfl (val := .ref (gA g 61)) rfl dX6_sheet_66 ?_
          refine lv_iload_n C.1.1 C.1.2.1 dX6_sheet_69 rfl (lv_at hl 1 rfl) ?_
          refine lv_iload_n C.1.1 C.1.2.1 dX6_sheet_70 rfl (lv_at hl 2 rfl) ?_
          refine lv_if_ne (tgt := 78) C.1.1 C.1.2.1 dX6_sheet_71 (by decide) (fun c_7 => ?_) (fun c_7 => ?_)
          · skip
            refine lv_iload_n C.1.1 C.1.2.1 dX6_sheet_78 rfl (lv_at hl 3 rfl) ?_
            refine r_iast C hP hS 61 (Nat.lt_of_lt_of_le (by decide) hn) rfl jx rfl (N := 4) rfl (by decide) (by omega) dX6_sheet_79 (fun H locs hP hS => ?_)
            obtain ⟨v_8, hv_8⟩ : ∃ zz, zz = up v_6 61 jx z := ⟨_, rfl⟩
            rw [← hv_8] at hP
            obtain ⟨vv, hvv⟩ : ∃ zz, zz = v_8 := ⟨_, rfl⟩
            rw [← hvv] at hP
            rw [hv_8, hv_6] at hvv
            refine lv_iconst (v := 0) C.1.1 C.1.2.1 dX6_sheet_80 rfl ?_
            refine lv_istore (lv' := [(4, .int 0), (0, .ref (gA g 53)), (1, .int (nI jx)), (2, .int y), (3, .int z)]) C.1.1 C.1.2.1 dX6_sheet_81 hl (by decide) rfl (fun ls hl => ?_)
            have lp_83 : ∀ (k_83 i : Nat), i ≤ 40 → 40 + 1 ≤ i + k_83 → ∀ (H : Heap) (locs : List Loc) (ls : Array Slot), va_P g.1 vwCl (wl g n (upw vv 62 (zsF (vv.1 62) (40 * jx) i))) H → va_S (wA g n) s.heap H locs → lv_has ls 5 [(0, .ref (gA g 53)), (1, .int (nI jx)), (2, .int y), (3, .int z), (4, .int (nI i))] → W p l e rmX6_sheet s m args below meth c H locs 0 0 (MQ below (QF g n ((sheetM v (nI jx) y z).1) ((sheetM v (nI jx) y z).2)) args s 0 0 (wA g n)) (F0 m 83 ls []) := by
              clear hP hS hl
              intro k_83
              induction k_83 with
              | zero => exact fun i h1 h2 => absurd h2 (by omega)
              | succ k_83 ih_83 =>
                intro i hi_83 hk_83 H locs ls hP hS hl
                refine lv_iload C.1.1 C.1.2.1 dX6_sheet_83 (lv_at hl 4 rfl) ?_
                refine lv_bipush (v := 40) C.1.1 C.1.2.1 dX6_sheet_85 rfl ?_
                refine lv_icmp_ge (tgt := 109) C.1.1 C.1.2.1 dX6_sheet_87 (by decide) (fun c_9 => ?_) (fun c_9 => ?_)
                · rw [show (40 ≤ nI i) = (40 ≤ i) from propext (nI_leI (a := 40) (b := i) (by omega) (by omega))] at c_9
                  have hi40 : i = 40 := by omega
                  subst hi40
                  refine lv_aload_n C.1.1 C.1.2.1 dX6_sheet_109 rfl (lv_at hl 0 rfl) ?_
                  refine r_get C hP 53 6 (Nat.lt_of_lt_of_le (by decide) hn) rfl (by decide) rfl hi6 14 (by decide) (List.mem_of_getElem? (i := 2) rfl) rfl (val := .ref (gA g 61)) rfl dX6_sheet_110 ?_
                  refine lv_iload_n C.1.1 C.1.2.1 dX6_sheet_113 rfl (lv_at hl 1 rfl) ?_
                  refine r_iald C hP 61 (Nat.lt_of_lt_of_le (by decide) hn) rfl jx rfl (N := 4) rfl (by decide) (by omega) dX6_sheet_114 ?_
                  exact t_F C rfl hP hS (by rw [sheetM, cif_pos ⟨jx, hjx, rfl⟩, if_pos (by first | exact Or.inl c_3 | exact Or.inr (Or.inl c_3) | exact Or.inr (Or.inr (Or.inl c_3)) | exact Or.inr (Or.inr (Or.inr c_3))), if_neg (fa_le_nlt c_4), if_neg (fa_le_nlt c_5), tn_nI (show jx < 2 ^ 31 by omega), if_neg c_7]; show (upw vv 62 _).1 61 jx = _; rw [upw_ne _ _ (by decide), hvv, upw_same]; simp [upd]) (by rw [sheetM, cif_pos ⟨jx, hjx, rfl⟩, if_pos (by first | exact Or.inl c_3 | exact Or.inr (Or.inl c_3) | exact Or.inr (Or.inr (Or.inl c_3)) | exact Or.inr (Or.inr (Or.inr c_3))), if_neg (fa_le_nlt c_4), if_neg (fa_le_nlt c_5), tn_nI (show jx < 2 ^ 31 by omega), shS, if_neg c_7, hvv] <;> rfl) dX6_sheet_115
                · rw [show (40 ≤ nI i) = (40 ≤ i) from propext (nI_leI (a := 40) (b := i) (by omega) (by omega))] at c_9
                  refine lv_aload_n C.1.1 C.1.2.1 dX6_sheet_90 rfl (lv_at hl 0 rfl) ?_
                  refine r_get C hP 53 6 (Nat.lt_of_lt_of_le (by decide) hn) rfl (by decide) rfl hi6 15 (by decide) (List.mem_of_getElem? (i := 3) rfl) rfl (val := .ref (gA g 62)) rfl dX6_sheet_91 ?_
                  refine lv_bipush (v := 40) C.1.1 C.1.2.1 dX6_sheet_94 rfl ?_
                  refine lv_iload_n C.1.1 C.1.2.1 dX6_sheet_96 rfl (lv_at hl 1 rfl) ?_
                  refine lv_imul C.1.1 C.1.2.1 dX6_sheet_97 ?_
                  refine lv_topE (nI (40 * jx)) (pk_mul 40 jx) ?_
                  refine lv_iload C.1.1 C.1.2.1 dX6_sheet_98 (lv_at hl 4 rfl) ?_
                  refine lv_iadd C.1.1 C.1.2.1 dX6_sheet_100 ?_
                  refine lv_topE (nI ((40 * jx) + i)) (nI_add (40 * jx) i) ?_
                  refine lv_iconst (v := 0) C.1.1 C.1.2.1 dX6_sheet_101 rfl ?_
                  refine r_iast C hP hS 62 (Nat.lt_of_lt_of_le (by decide) hn) rfl ((40 * jx) + i) rfl (N := 160) rfl (by decide) (by omega) dX6_sheet_102 (fun H locs hP hS => ?_)
                  obtain ⟨v_10, hv_10⟩ : ∃ zz, zz = up (upw vv 62 (zsF (vv.1 62) (40 * jx) i)) 62 ((40 * jx) + i) 0 := ⟨_, rfl⟩
                  rw [← hv_10] at hP
                  refine lv_iinc (v := nI (i + 1)) (lv' := [(4, .int (nI (i + 1))), (0, .ref (gA g 53)), (1, .int (nI jx)), (2, .int y), (3, .int z)]) C.1.1 C.1.2.1 dX6_sheet_103 hl (k := 4) rfl (nI_1 i) (by decide) rfl (fun ls hl => ?_)
                  refine lv_goto (tgt := 83) C.1.1 C.1.2.1 dX6_sheet_106 (by decide) ?_
                  exact ih_83 (i + 1) (by omega) (by omega) _ _ _ (by rw [hv_10, upw_up] at hP; exact hP) hS (lv_sub hl [1, 2, 3, 4, 0] rfl)
            exact lp_83 (40 + 1) 0 (Nat.zero_le _) (by omega) _ _ _ (by rw [show zsF (vv.1 62) (40 * jx) 0 = vv.1 62 from rfl, upw_self]; exact hP) hS (lv_sub hl [1, 2, 3, 4, 0] rfl)
          · skip
            refine lv_iconst (v := 0) C.1.1 C.1.2.1 dX6_sheet_74 rfl ?_
            refine lv_goto (tgt := 79) C.1.1 C.1.2.1 dX6_sheet_75 (by decide) ?_
            refine r_iast C hP hS 61 (Nat.lt_of_lt_of_le (by decide) hn) rfl jx rfl (N := 4) rfl (by decide) (by omega) dX6_sheet_79 (fun H locs hP hS => ?_)
            obtain ⟨v_11, hv_11⟩ : ∃ zz, zz = up v_6 61 jx 0 := ⟨_, rfl⟩
            rw [← hv_11] at hP
            obtain ⟨vv, hvv⟩ : ∃ zz, zz = v_11 := ⟨_, rfl⟩
            rw [← hvv] at hP
            rw [hv_11, hv_6] at hvv
            refine lv_iconst (v := 0) C.1.1 C.1.2.1 dX6_sheet_80 rfl ?_
            refine lv_istore (lv' := [(4, .int 0), (0, .ref (gA g 53)), (1, .int (nI jx)), (2, .int y), (3, .int z)]) C.1.1 C.1.2.1 dX6_sheet_81 hl (by decide) rfl (fun ls hl => ?_)
            have lp_83 : ∀ (k_83 i : Nat), i ≤ 40 → 40 + 1 ≤ i + k_83 → ∀ (H : Heap) (locs : List Loc) (ls : Array Slot), va_P g.1 vwCl (wl g n (upw vv 62 (zsF (vv.1 62) (40 * jx) i))) H → va_S (wA g n) s.heap H locs → lv_has ls 5 [(0, .ref (gA g 53)), (1, .int (nI jx)), (2, .int y), (3, .int z), (4, .int (nI i))] → W p l e rmX6_sheet s m args below meth c H locs 0 0 (MQ below (QF g n ((sheetM v (nI jx) y z).1) ((sheetM v (nI jx) y z).2)) args s 0 0 (wA g n)) (F0 m 83 ls []) := by
              clear hP hS hl
              intro k_83
              induction k_83 with
              | zero => exact fun i h1 h2 => absurd h2 (by omega)
              | succ k_83 ih_83 =>
                intro i hi_83 hk_83 H locs ls hP hS hl
                refine lv_iload C.1.1 C.1.2.1 dX6_sheet_83 (lv_at hl 4 rfl) ?_
                refine lv_bipush (v := 40) C.1.1 C.1.2.1 dX6_sheet_85 rfl ?_
                refine lv_icmp_ge (tgt := 109) C.1.1 C.1.2.1 dX6_sheet_87 (by decide) (fun c_12 => ?_) (fun c_12 => ?_)
                · rw [show (40 ≤ nI i) = (40 ≤ i) from propext (nI_leI (a := 40) (b := i) (by omega) (by omega))] at c_12
                  have hi40 : i = 40 := by omega
                  subst hi40
                  refine lv_aload_n C.1.1 C.1.2.1 dX6_sheet_109 rfl (lv_at hl 0 rfl) ?_
                  refine r_get C hP 53 6 (Nat.lt_of_lt_of_le (by decide) hn) rfl (by decide) rfl hi6 14 (by decide) (List.mem_of_getElem? (i := 2) rfl) rfl (val := .ref (gA g 61)) rfl dX6_sheet_110 ?_
                  refine lv_iload_n C.1.1 C.1.2.1 dX6_sheet_113 rfl (lv_at hl 1 rfl) ?_
                  refine r_iald C hP 61 (Nat.lt_of_lt_of_le (by decide) hn) rfl jx rfl (N := 4) rfl (by decide) (by omega) dX6_sheet_114 ?_
                  exact t_F C rfl hP hS (by rw [sheetM, cif_pos ⟨jx, hjx, rfl⟩, if_pos (by first | exact Or.inl c_3 | exact Or.inr (Or.inl c_3) | exact Or.inr (Or.inr (Or.inl c_3)) | exact Or.inr (Or.inr (Or.inr c_3))), if_neg (fa_le_nlt c_4), if_neg (fa_le_nlt c_5), tn_nI (show jx < 2 ^ 31 by omega), if_pos c_7]; show (upw vv 62 _).1 61 jx = _; rw [upw_ne _ _ (by decide), hvv, upw_same]; simp [upd]) (by rw [sheetM, cif_pos ⟨jx, hjx, rfl⟩, if_pos (by first | exact Or.inl c_3 | exact Or.inr (Or.inl c_3) | exact Or.inr (Or.inr (Or.inl c_3)) | exact Or.inr (Or.inr (Or.inr c_3))), if_neg (fa_le_nlt c_4), if_neg (fa_le_nlt c_5), tn_nI (show jx < 2 ^ 31 by omega), shS, if_pos c_7, hvv] <;> rfl) dX6_sheet_115
                · rw [show (40 ≤ nI i) = (40 ≤ i) from propext (nI_leI (a := 40) (b := i) (by omega) (by omega))] at c_12
                  refine lv_aload_n C.1.1 C.1.2.1 dX6_sheet_90 rfl (lv_at hl 0 rfl) ?_
                  refine r_get C hP 53 6 (Nat.lt_of_lt_of_le (by decide) hn) rfl (by decide) rfl hi6 15 (by decide) (List.mem_of_getElem? (i := 3) rfl) rfl (val := .ref (gA g 62)) rfl dX6_sheet_91 ?_
                  refine lv_bipush (v := 40) C.1.1 C.1.2.1 dX6_sheet_94 rfl ?_
                  refine lv_iload_n C.1.1 C.1.2.1 dX6_sheet_96 rfl (lv_at hl 1 rfl) ?_
                  refine lv_imul C.1.1 C.1.2.1 dX6_sheet_97 ?_
                  refine lv_topE (nI (40 * jx)) (pk_mul 40 jx) ?_
                  refine lv_iload C.1.1 C.1.2.1 dX6_sheet_98 (lv_at hl 4 rfl) ?_
                  refine lv_iadd C.1.1 C.1.2.1 dX6_sheet_100 ?_
                  refine lv_topE (nI ((40 * jx) + i)) (nI_add (40 * jx) i) ?_
                  refine lv_iconst (v := 0) C.1.1 C.1.2.1 dX6_sheet_101 rfl ?_
                  refine r_iast C hP hS 62 (Nat.lt_of_lt_of_le (by decide) hn) rfl ((40 * jx) + i) rfl (N := 160) rfl (by decide) (by omega) dX6_sheet_102 (fun H locs hP hS => ?_)
                  obtain ⟨v_13, hv_13⟩ : ∃ zz, zz = up (upw vv 62 (zsF (vv.1 62) (40 * jx) i)) 62 ((40 * jx) + i) 0 := ⟨_, rfl⟩
                  rw [← hv_13] at hP
                  refine lv_iinc (v := nI (i + 1)) (lv' := [(4, .int (nI (i + 1))), (0, .ref (gA g 53)), (1, .int (nI jx)), (2, .int y), (3, .int z)]) C.1.1 C.1.2.1 dX6_sheet_103 hl (k := 4) rfl (nI_1 i) (by decide) rfl (fun ls hl => ?_)
                  refine lv_goto (tgt := 83) C.1.1 C.1.2.1 dX6_sheet_106 (by decide) ?_
                  exact ih_83 (i + 1) (by omega) (by omega) _ _ _ (by rw [hv_13, upw_up] at hP; exact hP) hS (lv_sub hl [1, 2, 3, 4, 0] rfl)
            exact lp_83 (40 + 1) 0 (Nat.zero_le _) (by omega) _ _ _ (by rw [show zsF (vv.1 62) (40 * jx) 0 = vv.1 62 from rfl, upw_self]; exact hP) hS (lv_sub hl [1, 2, 3, 4, 0] rfl)
        · skip
          refine lv_aload_n C.1.1 C.1.2.1 dX6_sheet_52 rfl (lv_at hl 0 rfl) ?_
          refine lv_iconst (v := 0) C.1.1 C.1.2.1 dX6_sheet_53 rfl ?_
          refine a_F hS (run_V C hP hS hl.1 53 6 (Nat.lt_of_lt_of_le (by decide) hn) rfl (by decide) rfl [.int 0] (kX6_finds l g n v 0 (by decide)) gX6_sheet_X6_finds rfl hdX6_finds rfl ⟨rfl, rfl⟩ ⟨Nat.le_of_ble_eq_true rfl, Nat.le_of_ble_eq_true rfl⟩ rfl [] rfl (Nat.le_of_ble_eq_true rfl) dX6_sheet_54 ⟨Nat.zero_le _, Nat.zero_le _⟩) (fun H locs hP hS => ?_)
          obtain ⟨v_14, hv_14⟩ : ∃ zz, zz = fnd v 0 := ⟨_, rfl⟩
          rw [← hv_14] at hP
          exact t_F C rfl hP hS (by rw [sheetM, cif_pos ⟨jx, hjx, rfl⟩, if_pos (by first | exact Or.inl c_3 | exact Or.inr (Or.inl c_3) | exact Or.inr (Or.inr (Or.inl c_3)) | exact Or.inr (Or.inr (Or.inr c_3))), if_neg (fa_le_nlt c_4), if_pos (fa_nle c_5)]; rfl) (by rw [sheetM, cif_pos ⟨jx, hjx, rfl⟩, if_pos (by first | exact Or.inl c_3 | exact Or.inr (Or.inl c_3) | exact Or.inr (Or.inr (Or.inl c_3)) | exact Or.inr (Or.inr (Or.inr c_3))), if_neg (fa_le_nlt c_4), if_pos (fa_nle c_5), hv_14]; rfl) dX6_sheet_57
      · skip
        refine lv_aload_n C.1.1 C.1.2.1 dX6_sheet_39 rfl (lv_at hl 0 rfl) ?_
        refine lv_bipush (v := 6) C.1.1 C.1.2.1 dX6_sheet_40 rfl ?_
        refine a_F hS (run_V C hP hS hl.1 53 6 (Nat.lt_of_lt_of_le (by decide) hn) rfl (by decide) rfl [.int 6] (kX6_finds l g n v 6 (by decide)) gX6_sheet_X6_finds rfl hdX6_finds rfl ⟨rfl, rfl⟩ ⟨Nat.le_of_ble_eq_true rfl, Nat.le_of_ble_eq_true rfl⟩ rfl [] rfl (Nat.le_of_ble_eq_true rfl) dX6_sheet_42 ⟨Nat.zero_le _, Nat.zero_le _⟩) (fun H locs hP hS => ?_)
        obtain ⟨v_15, hv_15⟩ : ∃ zz, zz = fnd v 6 := ⟨_, rfl⟩
        rw [← hv_15] at hP
        exact t_F C rfl hP hS (by rw [sheetM, cif_pos ⟨jx, hjx, rfl⟩, if_pos (by first | exact Or.inl c_3 | exact Or.inr (Or.inl c_3) | exact Or.inr (Or.inr (Or.inl c_3)) | exact Or.inr (Or.inr (Or.inr c_3))), if_pos (fa_nle c_4)]; rfl) (by rw [sheetM, cif_pos ⟨jx, hjx, rfl⟩, if_pos (by first | exact Or.inl c_3 | exact Or.inr (Or.inl c_3) | exact Or.inr (Or.inr (Or.inl c_3)) | exact Or.inr (Or.inr (Or.inr c_3))), if_pos (fa_nle c_4), hv_15]; rfl) dX6_sheet_45
    · skip
      refine lv_iload_n C.1.1 C.1.2.1 dX6_sheet_11 rfl (lv_at hl 2 rfl) ?_
      refine lv_bipush (v := 8) C.1.1 C.1.2.1 dX6_sheet_12 rfl ?_
      refine lv_icmp_eq (tgt := 35) C.1.1 C.1.2.1 dX6_sheet_14 (by decide) (fun c_16 => ?_) (fun c_16 => ?_)
      · skip
        refine lv_iload_n C.1.1 C.1.2.1 dX6_sheet_35 rfl (lv_at hl 3 rfl) ?_
        refine lv_if_ge (tgt := 46) C.1.1 C.1.2.1 dX6_sheet_36 (by decide) (fun c_17 => ?_) (fun c_17 => ?_)
        · skip
          refine lv_iload_n C.1.1 C.1.2.1 dX6_sheet_46 rfl (lv_at hl 3 rfl) ?_
          refine lv_bipush (v := 40) C.1.1 C.1.2.1 dX6_sheet_47 rfl ?_
          refine lv_icmp_le (tgt := 58) C.1.1 C.1.2.1 dX6_sheet_49 (by decide) (fun c_18 => ?_) (fun c_18 => ?_)
          · skip
            refine lv_aload_n C.1.1 C.1.2.1 dX6_sheet_58 rfl (lv_at hl 0 rfl) ?_
            refine r_get C hP 53 6 (Nat.lt_of_lt_of_le (by decide) hn) rfl (by decide) rfl hi6 13 (by decide) (List.mem_of_getElem? (i := 1) rfl) rfl (val := .ref (gA g 60)) rfl dX6_sheet_59 ?_
            refine lv_iload_n C.1.1 C.1.2.1 dX6_sheet_62 rfl (lv_at hl 1 rfl) ?_
            refine lv_iload_n C.1.1 C.1.2.1 dX6_sheet_63 rfl (lv_at hl 2 rfl) ?_
            refine r_iast C hP hS 60 (Nat.lt_of_lt_of_le (by decide) hn) rfl jx rfl (N := 4) rfl (by decide) (by omega) dX6_sheet_64 (fun H locs hP hS => ?_)
            obtain ⟨v_19, hv_19⟩ : ∃ zz, zz = up v 60 jx y := ⟨_, rfl⟩
            rw [← hv_19] at hP
            refine lv_aload_n C.1.1 C.1.2.1 dX6_sheet_65 rfl (lv_at hl 0 rfl) ?_
            refine r_get C hP 53 6 (Nat.lt_of_lt_of_le (by decide) hn) rfl (by decide) rfl hi6 14 (by decide) (List.mem_of_getElem? (i := 2) rfl) rfl (val := .ref (gA g 61)) rfl dX6_sheet_66 ?_
            refine lv_iload_n C.1.1 C.1.2.1 dX6_sheet_69 rfl (lv_at hl 1 rfl) ?_
            refine lv_iload_n C.1.1 C.1.2.1 dX6_sheet_70 rfl (lv_at hl 2 rfl) ?_
            refine lv_if_ne (tgt := 78) C.1.1 C.1.2.1 dX6_sheet_71 (by decide) (fun c_20 => ?_) (fun c_20 => ?_)
            · skip
              refine lv_iload_n C.1.1 C.1.2.1 dX6_sheet_78 rfl (lv_at hl 3 rfl) ?_
              refine r_iast C hP hS 61 (Nat.lt_of_lt_of_le (by decide) hn) rfl jx rfl (N := 4) rfl (by decide) (by omega) dX6_sheet_79 (fun H locs hP hS => ?_)
              obtain ⟨v_21, hv_21⟩ : ∃ zz, zz = up v_19 61 jx z := ⟨_, rfl⟩
              rw [← hv_21] at hP
              obtain ⟨vv, hvv⟩ : ∃ zz, zz = v_21 := ⟨_, rfl⟩
              rw [← hvv] at hP
              rw [hv_21, hv_19] at hvv
              refine lv_iconst (v := 0) C.1.1 C.1.2.1 dX6_sheet_80 rfl ?_
              refine lv_istore (lv' := [(4, .int 0), (0, .ref (gA g 53)), (1, .int (nI jx)), (2, .int y), (3, .int z)]) C.1.1 C.1.2.1 dX6_sheet_81 hl (by decide) rfl (fun ls hl => ?_)
              have lp_83 : ∀ (k_83 i : Nat), i ≤ 40 → 40 + 1 ≤ i + k_83 → ∀ (H : Heap) (locs : List Loc) (ls : Array Slot), va_P g.1 vwCl (wl g n (upw vv 62 (zsF (vv.1 62) (40 * jx) i))) H → va_S (wA g n) s.heap H locs → lv_has ls 5 [(0, .ref (gA g 53)), (1, .int (nI jx)), (2, .int y), (3, .int z), (4, .int (nI i))] → W p l e rmX6_sheet s m args below meth c H locs 0 0 (MQ below (QF g n ((sheetM v (nI jx) y z).1) ((sheetM v (nI jx) y z).2)) args s 0 0 (wA g n)) (F0 m 83 ls []) := by
                clear hP hS hl
                intro k_83
                induction k_83 with
                | zero => exact fun i h1 h2 => absurd h2 (by omega)
                | succ k_83 ih_83 =>
                  intro i hi_83 hk_83 H locs ls hP hS hl
                  refine lv_iload C.1.1 C.1.2.1 dX6_sheet_83 (lv_at hl 4 rfl) ?_
                  refine lv_bipush (v := 40) C.1.1 C.1.2.1 dX6_sheet_85 rfl ?_
                  refine lv_icmp_ge (tgt := 109) C.1.1 C.1.2.1 dX6_sheet_87 (by decide) (fun c_22 => ?_) (fun c_22 => ?_)
                  · rw [show (40 ≤ nI i) = (40 ≤ i) from propext (nI_leI (a := 40) (b := i) (by omega) (by omega))] at c_22
                    have hi40 : i = 40 := by omega
                    subst hi40
                    refine lv_aload_n C.1.1 C.1.2.1 dX6_sheet_109 rfl (lv_at hl 0 rfl) ?_
                    refine r_get C hP 53 6 (Nat.lt_of_lt_of_le (by decide) hn) rfl (by decide) rfl hi6 14 (by decide) (List.mem_of_getElem? (i := 2) rfl) rfl (val := .ref (gA g 61)) rfl dX6_sheet_110 ?_
                    refine lv_iload_n C.1.1 C.1.2.1 dX6_sheet_113 rfl (lv_at hl 1 rfl) ?_
                    refine r_iald C hP 61 (Nat.lt_of_lt_of_le (by decide) hn) rfl jx rfl (N := 4) rfl (by decide) (by omega) dX6_sheet_114 ?_
                    exact t_F C rfl hP hS (by rw [sheetM, cif_pos ⟨jx, hjx, rfl⟩, if_pos (by first | exact Or.inl c_16 | exact Or.inr (Or.inl c_16) | exact Or.inr (Or.inr (Or.inl c_16)) | exact Or.inr (Or.inr (Or.inr c_16))), if_neg (fa_le_nlt c_17), if_neg (fa_le_nlt c_18), tn_nI (show jx < 2 ^ 31 by omega), if_neg c_20]; show (upw vv 62 _).1 61 jx = _; rw [upw_ne _ _ (by decide), hvv, upw_same]; simp [upd]) (by rw [sheetM, cif_pos ⟨jx, hjx, rfl⟩, if_pos (by first | exact Or.inl c_16 | exact Or.inr (Or.inl c_16) | exact Or.inr (Or.inr (Or.inl c_16)) | exact Or.inr (Or.inr (Or.inr c_16))), if_neg (fa_le_nlt c_17), if_neg (fa_le_nlt c_18), tn_nI (show jx < 2 ^ 31 by omega), shS, if_neg c_20, hvv] <;> rfl) dX6_sheet_115
                  · rw [show (40 ≤ nI i) = (40 ≤ i) from propext (nI_leI (a := 40) (b := i) (by omega) (by omega))] at c_22
                    refine lv_aload_n C.1.1 C.1.2.1 dX6_sheet_90 rfl (lv_at hl 0 rfl) ?_
                    refine r_get C hP 53 6 (Nat.lt_of_lt_of_le (by decide) hn) rfl (by decide) rfl hi6 15 (by decide) (List.mem_of_getElem? (i := 3) rfl) rfl (val := .ref (gA g 62)) rfl dX6_sheet_91 ?_
                    refine lv_bipush (v := 40) C.1.1 C.1.2.1 dX6_sheet_94 rfl ?_
                    refine lv_iload_n C.1.1 C.1.2.1 dX6_sheet_96 rfl (lv_at hl 1 rfl) ?_
                    refine lv_imul C.1.1 C.1.2.1 dX6_sheet_97 ?_
                    refine lv_topE (nI (40 * jx)) (pk_mul 40 jx) ?_
                    refine lv_iload C.1.1 C.1.2.1 dX6_sheet_98 (lv_at hl 4 rfl) ?_
                    refine lv_iadd C.1.1 C.1.2.1 dX6_sheet_100 ?_
                    refine lv_topE (nI ((40 * jx) + i)) (nI_add (40 * jx) i) ?_
                    refine lv_iconst (v := 0) C.1.1 C.1.2.1 dX6_sheet_101 rfl ?_
                    refine r_iast C hP hS 62 (Nat.lt_of_lt_of_le (by decide) hn) rfl ((40 * jx) + i) rfl (N := 160) rfl (by decide) (by omega) dX6_sheet_102 (fun H locs hP hS => ?_)
                    obtain ⟨v_23, hv_23⟩ : ∃ zz, zz = up (upw vv 62 (zsF (vv.1 62) (40 * jx) i)) 62 ((40 * jx) + i) 0 := ⟨_, rfl⟩
                    rw [← hv_23] at hP
                    refine lv_iinc (v := nI (i + 1)) (lv' := [(4, .int (nI (i + 1))), (0, .ref (gA g 53)), (1, .int (nI jx)), (2, .int y), (3, .int z)]) C.1.1 C.1.2.1 dX6_sheet_103 hl (k := 4) rfl (nI_1 i) (by decide) rfl (fun ls hl => ?_)
                    refine lv_goto (tgt := 83) C.1.1 C.1.2.1 dX6_sheet_106 (by decide) ?_
                    exact ih_83 (i + 1) (by omega) (by omega) _ _ _ (by rw [hv_23, upw_up] at hP; exact hP) hS (lv_sub hl [1, 2, 3, 4, 0] rfl)
              exact lp_83 (40 + 1) 0 (Nat.zero_le _) (by omega) _ _ _ (by rw [show zsF (vv.1 62) (40 * jx) 0 = vv.1 62 from rfl, upw_self]; exact hP) hS (lv_sub hl [1, 2, 3, 4, 0] rfl)
            · skip
              refine lv_iconst (v := 0) C.1.1 C.1.2.1 dX6_sheet_74 rfl ?_
              refine lv_goto (tgt := 79) C.1.1 C.1.2.1 dX6_sheet_75 (by decide) ?_
              refine r_iast C hP hS 61 (Nat.lt_of_lt_of_le (by decide) hn) rfl jx rfl (N := 4) rfl (by decide) (by omega) dX6_sheet_79 (fun H locs hP hS => ?_)
              obtain ⟨v_24, hv_24⟩ : ∃ zz, zz = up v_19 61 jx 0 := ⟨_, rfl⟩
              rw [← hv_24] at hP
              obtain ⟨vv, hvv⟩ : ∃ zz, zz = v_24 := ⟨_, rfl⟩
              rw [← hvv] at hP
              rw [hv_24, hv_19] at hvv
              refine lv_iconst (v := 0) C.1.1 C.1.2.1 dX6_sheet_80 rfl ?_
              refine lv_istore (lv' := [(4, .int 0), (0, .ref (gA g 53)), (1, .int (nI jx)), (2, .int y), (3, .int z)]) C.1.1 C.1.2.1 dX6_sheet_81 hl (by decide) rfl (fun ls hl => ?_)
              have lp_83 : ∀ (k_83 i : Nat), i ≤ 40 → 40 + 1 ≤ i + k_83 → ∀ (H : Heap) (locs : List Loc) (ls : Array Slot), va_P g.1 vwCl (wl g n (upw vv 62 (zsF (vv.1 62) (40 * jx) i))) H → va_S (wA g n) s.heap H locs → lv_has ls 5 [(0, .ref (gA g 53)), (1, .int (nI jx)), (2, .int y), (3, .int z), (4, .int (nI i))] → W p l e rmX6_sheet s m args below meth c H locs 0 0 (MQ below (QF g n ((sheetM v (nI jx) y z).1) ((sheetM v (nI jx) y z).2)) args s 0 0 (wA g n)) (F0 m 83 ls []) := by
                clear hP hS hl
                intro k_83
                induction k_83 with
                | zero => exact fun i h1 h2 => absurd h2 (by omega)
                | succ k_83 ih_83 =>
                  intro i hi_83 hk_83 H locs ls hP hS hl
                  refine lv_iload C.1.1 C.1.2.1 dX6_sheet_83 (lv_at hl 4 rfl) ?_
                  refine lv_bipush (v := 40) C.1.1 C.1.2.1 dX6_sheet_85 rfl ?_
                  refine lv_icmp_ge (tgt := 109) C.1.1 C.1.2.1 dX6_sheet_87 (by decide) (fun c_25 => ?_) (fun c_25 => ?_)
                  · rw [show (40 ≤ nI i) = (40 ≤ i) from propext (nI_leI (a := 40) (b := i) (by omega) (by omega))] at c_25
                    have hi40 : i = 40 := by omega
                    subst hi40
                    refine lv_aload_n C.1.1 C.1.2.1 dX6_sheet_109 rfl (lv_at hl 0 rfl) ?_
                    refine r_get C hP 53 6 (Nat.lt_of_lt_of_le (by decide) hn) rfl (by decide) rfl hi6 14 (by decide) (List.mem_of_getElem? (i := 2) rfl) rfl (val := .ref (gA g 61)) rfl dX6_sheet_110 ?_
                    refine lv_iload_n C.1.1 C.1.2.1 dX6_sheet_113 rfl (lv_at hl 1 rfl) ?_
                    refine r_iald C hP 61 (Nat.lt_of_lt_of_le (by decide) hn) rfl jx rfl (N := 4) rfl (by decide) (by omega) dX6_sheet_114 ?_
                    exact t_F C rfl hP hS (by rw [sheetM, cif_pos ⟨jx, hjx, rfl⟩, if_pos (by first | exact Or.inl c_16 | exact Or.inr (Or.inl c_16) | exact Or.inr (Or.inr (Or.inl c_16)) | exact Or.inr (Or.inr (Or.inr c_16))), if_neg (fa_le_nlt c_17), if_neg (fa_le_nlt c_18), tn_nI (show jx < 2 ^ 31 by omega), if_pos c_20]; show (upw vv 62 _).1 61 jx = _; rw [upw_ne _ _ (by decide), hvv, upw_same]; simp [upd]) (by rw [sheetM, cif_pos ⟨jx, hjx, rfl⟩, if_pos (by first | exact Or.inl c_16 | exact Or.inr (Or.inl c_16) | exact Or.inr (Or.inr (Or.inl c_16)) | exact Or.inr (Or.inr (Or.inr c_16))), if_neg (fa_le_nlt c_17), if_neg (fa_le_nlt c_18), tn_nI (show jx < 2 ^ 31 by omega), shS, if_pos c_20, hvv] <;> rfl) dX6_sheet_115
                  · rw [show (40 ≤ nI i) = (40 ≤ i) from propext (nI_leI (a := 40) (b := i) (by omega) (by omega))] at c_25
                    refine lv_aload_n C.1.1 C.1.2.1 dX6_sheet_90 rfl (lv_at hl 0 rfl) ?_
                    refine r_get C hP 53 6 (Nat.lt_of_lt_of_le (by decide) hn) rfl (by decide) rfl hi6 15 (by decide) (List.mem_of_getElem? (i := 3) rfl) rfl (val := .ref (gA g 62)) rfl dX6_sheet_91 ?_
                    refine lv_bipush (v := 40) C.1.1 C.1.2.1 dX6_sheet_94 rfl ?_
                    refine lv_iload_n C.1.1 C.1.2.1 dX6_sheet_96 rfl (lv_at hl 1 rfl) ?_
                    refine lv_imul C.1.1 C.1.2.1 dX6_sheet_97 ?_
                    refine lv_topE (nI (40 * jx)) (pk_mul 40 jx) ?_
                    refine lv_iload C.1.1 C.1.2.1 dX6_sheet_98 (lv_at hl 4 rfl) ?_
                    refine lv_iadd C.1.1 C.1.2.1 dX6_sheet_100 ?_
                    refine lv_topE (nI ((40 * jx) + i)) (nI_add (40 * jx) i) ?_
                    refine lv_iconst (v := 0) C.1.1 C.1.2.1 dX6_sheet_101 rfl ?_
                    refine r_iast C hP hS 62 (Nat.lt_of_lt_of_le (by decide) hn) rfl ((40 * jx) + i) rfl (N := 160) rfl (by decide) (by omega) dX6_sheet_102 (fun H locs hP hS => ?_)
                    obtain ⟨v_26, hv_26⟩ : ∃ zz, zz = up (upw vv 62 (zsF (vv.1 62) (40 * jx) i)) 62 ((40 * jx) + i) 0 := ⟨_, rfl⟩
                    rw [← hv_26] at hP
                    refine lv_iinc (v := nI (i + 1)) (lv' := [(4, .int (nI (i + 1))), (0, .ref (gA g 53)), (1, .int (nI jx)), (2, .int y), (3, .int z)]) C.1.1 C.1.2.1 dX6_sheet_103 hl (k := 4) rfl (nI_1 i) (by decide) rfl (fun ls hl => ?_)
                    refine lv_goto (tgt := 83) C.1.1 C.1.2.1 dX6_sheet_106 (by decide) ?_
                    exact ih_83 (i + 1) (by omega) (by omega) _ _ _ (by rw [hv_26, upw_up] at hP; exact hP) hS (lv_sub hl [1, 2, 3, 4, 0] rfl)
              exact lp_83 (40 + 1) 0 (Nat.zero_le _) (by omega) _ _ _ (by rw [show zsF (vv.1 62) (40 * jx) 0 = vv.1 62 from rfl, upw_self]; exact hP) hS (lv_sub hl [1, 2, 3, 4, 0] rfl)
          · skip
            refine lv_aload_n C.1.1 C.1.2.1 dX6_sheet_52 rfl (lv_at hl 0 rfl) ?_
            refine lv_iconst (v := 0) C.1.1 C.1.2.1 dX6_sheet_53 rfl ?_
            refine a_F hS (run_V C hP hS hl.1 53 6 (Nat.lt_of_lt_of_le (by decide) hn) rfl (by decide) rfl [.int 0] (kX6_finds l g n v 0 (by decide)) gX6_sheet_X6_finds rfl hdX6_finds rfl ⟨rfl, rfl⟩ ⟨Nat.le_of_ble_eq_true rfl, Nat.le_of_ble_eq_true rfl⟩ rfl [] rfl (Nat.le_of_ble_eq_true rfl) dX6_sheet_54 ⟨Nat.zero_le _, Nat.zero_le _⟩) (fun H locs hP hS => ?_)
            obtain ⟨v_27, hv_27⟩ : ∃ zz, zz = fnd v 0 := ⟨_, rfl⟩
            rw [← hv_27] at hP
            exact t_F C rfl hP hS (by rw [sheetM, cif_pos ⟨jx, hjx, rfl⟩, if_pos (by first | exact Or.inl c_16 | exact Or.inr (Or.inl c_16) | exact Or.inr (Or.inr (Or.inl c_16)) | exact Or.inr (Or.inr (Or.inr c_16))), if_neg (fa_le_nlt c_17), if_pos (fa_nle c_18)]; rfl) (by rw [sheetM, cif_pos ⟨jx, hjx, rfl⟩, if_pos (by first | exact Or.inl c_16 | exact Or.inr (Or.inl c_16) | exact Or.inr (Or.inr (Or.inl c_16)) | exact Or.inr (Or.inr (Or.inr c_16))), if_neg (fa_le_nlt c_17), if_pos (fa_nle c_18), hv_27]; rfl) dX6_sheet_57
        · skip
          refine lv_aload_n C.1.1 C.1.2.1 dX6_sheet_39 rfl (lv_at hl 0 rfl) ?_
          refine lv_bipush (v := 6) C.1.1 C.1.2.1 dX6_sheet_40 rfl ?_
          refine a_F hS (run_V C hP hS hl.1 53 6 (Nat.lt_of_lt_of_le (by decide) hn) rfl (by decide) rfl [.int 6] (kX6_finds l g n v 6 (by decide)) gX6_sheet_X6_finds rfl hdX6_finds rfl ⟨rfl, rfl⟩ ⟨Nat.le_of_ble_eq_true rfl, Nat.le_of_ble_eq_true rfl⟩ rfl [] rfl (Nat.le_of_ble_eq_true rfl) dX6_sheet_42 ⟨Nat.zero_le _, Nat.zero_le _⟩) (fun H locs hP hS => ?_)
          obtain ⟨v_28, hv_28⟩ : ∃ zz, zz = fnd v 6 := ⟨_, rfl⟩
          rw [← hv_28] at hP
          exact t_F C rfl hP hS (by rw [sheetM, cif_pos ⟨jx, hjx, rfl⟩, if_pos (by first | exact Or.inl c_16 | exact Or.inr (Or.inl c_16) | exact Or.inr (Or.inr (Or.inl c_16)) | exact Or.inr (Or.inr (Or.inr c_16))), if_pos (fa_nle c_17)]; rfl) (by rw [sheetM, cif_pos ⟨jx, hjx, rfl⟩, if_pos (by first | exact Or.inl c_16 | exact Or.inr (Or.inl c_16) | exact Or.inr (Or.inr (Or.inl c_16)) | exact Or.inr (Or.inr (Or.inr c_16))), if_pos (fa_nle c_17), hv_28]; rfl) dX6_sheet_45
      · skip
        refine lv_iload_n C.1.1 C.1.2.1 dX6_sheet_17 rfl (lv_at hl 2 rfl) ?_
        refine lv_bipush (v := 16) C.1.1 C.1.2.1 dX6_sheet_18 rfl ?_
        refine lv_icmp_eq (tgt := 35) C.1.1 C.1.2.1 dX6_sheet_20 (by decide) (fun c_29 => ?_) (fun c_29 => ?_)
        · skip
          refine lv_iload_n C.1.1 C.1.2.1 dX6_sheet_35 rfl (lv_at hl 3 rfl) ?_
          refine lv_if_ge (tgt := 46) C.1.1 C.1.2.1 dX6_sheet_36 (by decide) (fun c_30 => ?_) (fun c_30 => ?_)
          · skip
            refine lv_iload_n C.1.1 C.1.2.1 dX6_sheet_46 rfl (lv_at hl 3 rfl) ?_
            refine lv_bipush (v := 40) C.1.1 C.1.2.1 dX6_sheet_47 rfl ?_
            refine lv_icmp_le (tgt := 58) C.1.1 C.1.2.1 dX6_sheet_49 (by decide) (fun c_31 => ?_) (fun c_31 => ?_)
            · skip
              refine lv_aload_n C.1.1 C.1.2.1 dX6_sheet_58 rfl (lv_at hl 0 rfl) ?_
              refine r_get C hP 53 6 (Nat.lt_of_lt_of_le (by decide) hn) rfl (by decide) rfl hi6 13 (by decide) (List.mem_of_getElem? (i := 1) rfl) rfl (val := .ref (gA g 60)) rfl dX6_sheet_59 ?_
              refine lv_iload_n C.1.1 C.1.2.1 dX6_sheet_62 rfl (lv_at hl 1 rfl) ?_
              refine lv_iload_n C.1.1 C.1.2.1 dX6_sheet_63 rfl (lv_at hl 2 rfl) ?_
              refine r_iast C hP hS 60 (Nat.lt_of_lt_of_le (by decide) hn) rfl jx rfl (N := 4) rfl (by decide) (by omega) dX6_sheet_64 (fun H locs hP hS => ?_)
              obtain ⟨v_32, hv_32⟩ : ∃ zz, zz = up v 60 jx y := ⟨_, rfl⟩
              rw [← hv_32] at hP
              refine lv_aload_n C.1.1 C.1.2.1 dX6_sheet_65 rfl (lv_at hl 0 rfl) ?_
              refine r_get C hP 53 6 (Nat.lt_of_lt_of_le (by decide) hn) rfl (by decide) rfl hi6 14 (by decide) (List.mem_of_getElem? (i := 2) rfl) rfl (val := .ref (gA g 61)) rfl dX6_sheet_66 ?_
              refine lv_iload_n C.1.1 C.1.2.1 dX6_sheet_69 rfl (lv_at hl 1 rfl) ?_
              refine lv_iload_n C.1.1 C.1.2.1 dX6_sheet_70 rfl (lv_at hl 2 rfl) ?_
              refine lv_if_ne (tgt := 78) C.1.1 C.1.2.1 dX6_sheet_71 (by decide) (fun c_33 => ?_) (fun c_33 => ?_)
              · skip
                refine lv_iload_n C.1.1 C.1.2.1 dX6_sheet_78 rfl (lv_at hl 3 rfl) ?_
                refine r_iast C hP hS 61 (Nat.lt_of_lt_of_le (by decide) hn) rfl jx rfl (N := 4) rfl (by decide) (by omega) dX6_sheet_79 (fun H locs hP hS => ?_)
                obtain ⟨v_34, hv_34⟩ : ∃ zz, zz = up v_32 61 jx z := ⟨_, rfl⟩
                rw [← hv_34] at hP
                obtain ⟨vv, hvv⟩ : ∃ zz, zz = v_34 := ⟨_, rfl⟩
                rw [← hvv] at hP
                rw [hv_34, hv_32] at hvv
                refine lv_iconst (v := 0) C.1.1 C.1.2.1 dX6_sheet_80 rfl ?_
                refine lv_istore (lv' := [(4, .int 0), (0, .ref (gA g 53)), (1, .int (nI jx)), (2, .int y), (3, .int z)]) C.1.1 C.1.2.1 dX6_sheet_81 hl (by decide) rfl (fun ls hl => ?_)
                have lp_83 : ∀ (k_83 i : Nat), i ≤ 40 → 40 + 1 ≤ i + k_83 → ∀ (H : Heap) (locs : List Loc) (ls : Array Slot), va_P g.1 vwCl (wl g n (upw vv 62 (zsF (vv.1 62) (40 * jx) i))) H → va_S (wA g n) s.heap H locs → lv_has ls 5 [(0, .ref (gA g 53)), (1, .int (nI jx)), (2, .int y), (3, .int z), (4, .int (nI i))] → W p l e rmX6_sheet s m args below meth c H locs 0 0 (MQ below (QF g n ((sheetM v (nI jx) y z).1) ((sheetM v (nI jx) y z).2)) args s 0 0 (wA g n)) (F0 m 83 ls []) := by
                  clear hP hS hl
                  intro k_83
                  induction k_83 with
                  | zero => exact fun i h1 h2 => absurd h2 (by omega)
                  | succ k_83 ih_83 =>
                    intro i hi_83 hk_83 H locs ls hP hS hl
                    refine lv_iload C.1.1 C.1.2.1 dX6_sheet_83 (lv_at hl 4 rfl) ?_
                    refine lv_bipush (v := 40) C.1.1 C.1.2.1 dX6_sheet_85 rfl ?_
                    refine lv_icmp_ge (tgt := 109) C.1.1 C.1.2.1 dX6_sheet_87 (by decide) (fun c_35 => ?_) (fun c_35 => ?_)
                    · rw [show (40 ≤ nI i) = (40 ≤ i) from propext (nI_leI (a := 40) (b := i) (by omega) (by omega))] at c_35
                      have hi40 : i = 40 := by omega
                      subst hi40
                      refine lv_aload_n C.1.1 C.1.2.1 dX6_sheet_109 rfl (lv_at hl 0 rfl) ?_
                      refine r_get C hP 53 6 (Nat.lt_of_lt_of_le (by decide) hn) rfl (by decide) rfl hi6 14 (by decide) (List.mem_of_getElem? (i := 2) rfl) rfl (val := .ref (gA g 61)) rfl dX6_sheet_110 ?_
                      refine lv_iload_n C.1.1 C.1.2.1 dX6_sheet_113 rfl (lv_at hl 1 rfl) ?_
                      refine r_iald C hP 61 (Nat.lt_of_lt_of_le (by decide) hn) rfl jx rfl (N := 4) rfl (by decide) (by omega) dX6_sheet_114 ?_
                      exact t_F C rfl hP hS (by rw [sheetM, cif_pos ⟨jx, hjx, rfl⟩, if_pos (by first | exact Or.inl c_29 | exact Or.inr (Or.inl c_29) | exact Or.inr (Or.inr (Or.inl c_29)) | exact Or.inr (Or.inr (Or.inr c_29))), if_neg (fa_le_nlt c_30), if_neg (fa_le_nlt c_31), tn_nI (show jx < 2 ^ 31 by omega), if_neg c_33]; show (upw vv 62 _).1 61 jx = _; rw [upw_ne _ _ (by decide), hvv, upw_same]; simp [upd]) (by rw [sheetM, cif_pos ⟨jx, hjx, rfl⟩, if_pos (by first | exact Or.inl c_29 | exact Or.inr (Or.inl c_29) | exact Or.inr (Or.inr (Or.inl c_29)) | exact Or.inr (Or.inr (Or.inr c_29))), if_neg (fa_le_nlt c_30), if_neg (fa_le_nlt c_31), tn_nI (show jx < 2 ^ 31 by omega), shS, if_neg c_33, hvv] <;> rfl) dX6_sheet_115
                    · rw [show (40 ≤ nI i) = (40 ≤ i) from propext (nI_leI (a := 40) (b := i) (by omega) (by omega))] at c_35
                      refine lv_aload_n C.1.1 C.1.2.1 dX6_sheet_90 rfl (lv_at hl 0 rfl) ?_
                      refine r_get C hP 53 6 (Nat.lt_of_lt_of_le (by decide) hn) rfl (by decide) rfl hi6 15 (by decide) (List.mem_of_getElem? (i := 3) rfl) rfl (val := .ref (gA g 62)) rfl dX6_sheet_91 ?_
                      refine lv_bipush (v := 40) C.1.1 C.1.2.1 dX6_sheet_94 rfl ?_
                      refine lv_iload_n C.1.1 C.1.2.1 dX6_sheet_96 rfl (lv_at hl 1 rfl) ?_
                      refine lv_imul C.1.1 C.1.2.1 dX6_sheet_97 ?_
                      refine lv_topE (nI (40 * jx)) (pk_mul 40 jx) ?_
                      refine lv_iload C.1.1 C.1.2.1 dX6_sheet_98 (lv_at hl 4 rfl) ?_
                      refine lv_iadd C.1.1 C.1.2.1 dX6_sheet_100 ?_
                      refine lv_topE (nI ((40 * jx) + i)) (nI_add (40 * jx) i) ?_
                      refine lv_iconst (v := 0) C.1.1 C.1.2.1 dX6_sheet_101 rfl ?_
                      refine r_iast C hP hS 62 (Nat.lt_of_lt_of_le (by decide) hn) rfl ((40 * jx) + i) rfl (N := 160) rfl (by decide) (by omega) dX6_sheet_102 (fun H locs hP hS => ?_)
                      obtain ⟨v_36, hv_36⟩ : ∃ zz, zz = up (upw vv 62 (zsF (vv.1 62) (40 * jx) i)) 62 ((40 * jx) + i) 0 := ⟨_, rfl⟩
                      rw [← hv_36] at hP
                      refine lv_iinc (v := nI (i + 1)) (lv' := [(4, .int (nI (i + 1))), (0, .ref (gA g 53)), (1, .int (nI jx)), (2, .int y), (3, .int z)]) C.1.1 C.1.2.1 dX6_sheet_103 hl (k := 4) rfl (nI_1 i) (by decide) rfl (fun ls hl => ?_)
                      refine lv_goto (tgt := 83) C.1.1 C.1.2.1 dX6_sheet_106 (by decide) ?_
                      exact ih_83 (i + 1) (by omega) (by omega) _ _ _ (by rw [hv_36, upw_up] at hP; exact hP) hS (lv_sub hl [1, 2, 3, 4, 0] rfl)
                exact lp_83 (40 + 1) 0 (Nat.zero_le _) (by omega) _ _ _ (by rw [show zsF (vv.1 62) (40 * jx) 0 = vv.1 62 from rfl, upw_self]; exact hP) hS (lv_sub hl [1, 2, 3, 4, 0] rfl)
              · skip
                refine lv_iconst (v := 0) C.1.1 C.1.2.1 dX6_sheet_74 rfl ?_
                refine lv_goto (tgt := 79) C.1.1 C.1.2.1 dX6_sheet_75 (by decide) ?_
                refine r_iast C hP hS 61 (Nat.lt_of_lt_of_le (by decide) hn) rfl jx rfl (N := 4) rfl (by decide) (by omega) dX6_sheet_79 (fun H locs hP hS => ?_)
                obtain ⟨v_37, hv_37⟩ : ∃ zz, zz = up v_32 61 jx 0 := ⟨_, rfl⟩
                rw [← hv_37] at hP
                obtain ⟨vv, hvv⟩ : ∃ zz, zz = v_37 := ⟨_, rfl⟩
                rw [← hvv] at hP
                rw [hv_37, hv_32] at hvv
                refine lv_iconst (v := 0) C.1.1 C.1.2.1 dX6_sheet_80 rfl ?_
                refine lv_istore (lv' := [(4, .int 0), (0, .ref (gA g 53)), (1, .int (nI jx)), (2, .int y), (3, .int z)]) C.1.1 C.1.2.1 dX6_sheet_81 hl (by decide) rfl (fun ls hl => ?_)
                have lp_83 : ∀ (k_83 i : Nat), i ≤ 40 → 40 + 1 ≤ i + k_83 → ∀ (H : Heap) (locs : List Loc) (ls : Array Slot), va_P g.1 vwCl (wl g n (upw vv 62 (zsF (vv.1 62) (40 * jx) i))) H → va_S (wA g n) s.heap H locs → lv_has ls 5 [(0, .ref (gA g 53)), (1, .int (nI jx)), (2, .int y), (3, .int z), (4, .int (nI i))] → W p l e rmX6_sheet s m args below meth c H locs 0 0 (MQ below (QF g n ((sheetM v (nI jx) y z).1) ((sheetM v (nI jx) y z).2)) args s 0 0 (wA g n)) (F0 m 83 ls []) := by
                  clear hP hS hl
                  intro k_83
                  induction k_83 with
                  | zero => exact fun i h1 h2 => absurd h2 (by omega)
                  | succ k_83 ih_83 =>
                    intro i hi_83 hk_83 H locs ls hP hS hl
                    refine lv_iload C.1.1 C.1.2.1 dX6_sheet_83 (lv_at hl 4 rfl) ?_
                    refine lv_bipush (v := 40) C.1.1 C.1.2.1 dX6_sheet_85 rfl ?_
                    refine lv_icmp_ge (tgt := 109) C.1.1 C.1.2.1 dX6_sheet_87 (by decide) (fun c_38 => ?_) (fun c_38 => ?_)
                    · rw [show (40 ≤ nI i) = (40 ≤ i) from propext (nI_leI (a := 40) (b := i) (by omega) (by omega))] at c_38
                      have hi40 : i = 40 := by omega
                      subst hi40
                      refine lv_aload_n C.1.1 C.1.2.1 dX6_sheet_109 rfl (lv_at hl 0 rfl) ?_
                      refine r_get C hP 53 6 (Nat.lt_of_lt_of_le (by decide) hn) rfl (by decide) rfl hi6 14 (by decide) (List.mem_of_getElem? (i := 2) rfl) rfl (val := .ref (gA g 61)) rfl dX6_sheet_110 ?_
                      refine lv_iload_n C.1.1 C.1.2.1 dX6_sheet_113 rfl (lv_at hl 1 rfl) ?_
                      refine r_iald C hP 61 (Nat.lt_of_lt_of_le (by decide) hn) rfl jx rfl (N := 4) rfl (by decide) (by omega) dX6_sheet_114 ?_
                      exact t_F C rfl hP hS (by rw [sheetM, cif_pos ⟨jx, hjx, rfl⟩, if_pos (by first | exact Or.inl c_29 | exact Or.inr (Or.inl c_29) | exact Or.inr (Or.inr (Or.inl c_29)) | exact Or.inr (Or.inr (Or.inr c_29))), if_neg (fa_le_nlt c_30), if_neg (fa_le_nlt c_31), tn_nI (show jx < 2 ^ 31 by omega), if_pos c_33]; show (upw vv 62 _).1 61 jx = _; rw [upw_ne _ _ (by decide), hvv, upw_same]; simp [upd]) (by rw [sheetM, cif_pos ⟨jx, hjx, rfl⟩, if_pos (by first | exact Or.inl c_29 | exact Or.inr (Or.inl c_29) | exact Or.inr (Or.inr (Or.inl c_29)) | exact Or.inr (Or.inr (Or.inr c_29))), if_neg (fa_le_nlt c_30), if_neg (fa_le_nlt c_31), tn_nI (show jx < 2 ^ 31 by omega), shS, if_pos c_33, hvv] <;> rfl) dX6_sheet_115
                    · rw [show (40 ≤ nI i) = (40 ≤ i) from propext (nI_leI (a := 40) (b := i) (by omega) (by omega))] at c_38
                      refine lv_aload_n C.1.1 C.1.2.1 dX6_sheet_90 rfl (lv_at hl 0 rfl) ?_
                      refine r_get C hP 53 6 (Nat.lt_of_lt_of_le (by decide) hn) rfl (by decide) rfl hi6 15 (by decide) (List.mem_of_getElem? (i := 3) rfl) rfl (val := .ref (gA g 62)) rfl dX6_sheet_91 ?_
                      refine lv_bipush (v := 40) C.1.1 C.1.2.1 dX6_sheet_94 rfl ?_
                      refine lv_iload_n C.1.1 C.1.2.1 dX6_sheet_96 rfl (lv_at hl 1 rfl) ?_
                      refine lv_imul C.1.1 C.1.2.1 dX6_sheet_97 ?_
                      refine lv_topE (nI (40 * jx)) (pk_mul 40 jx) ?_
                      refine lv_iload C.1.1 C.1.2.1 dX6_sheet_98 (lv_at hl 4 rfl) ?_
                      refine lv_iadd C.1.1 C.1.2.1 dX6_sheet_100 ?_
                      refine lv_topE (nI ((40 * jx) + i)) (nI_add (40 * jx) i) ?_
                      refine lv_iconst (v := 0) C.1.1 C.1.2.1 dX6_sheet_101 rfl ?_
                      refine r_iast C hP hS 62 (Nat.lt_of_lt_of_le (by decide) hn) rfl ((40 * jx) + i) rfl (N := 160) rfl (by decide) (by omega) dX6_sheet_102 (fun H locs hP hS => ?_)
                      obtain ⟨v_39, hv_39⟩ : ∃ zz, zz = up (upw vv 62 (zsF (vv.1 62) (40 * jx) i)) 62 ((40 * jx) + i) 0 := ⟨_, rfl⟩
                      rw [← hv_39] at hP
                      refine lv_iinc (v := nI (i + 1)) (lv' := [(4, .int (nI (i + 1))), (0, .ref (gA g 53)), (1, .int (nI jx)), (2, .int y), (3, .int z)]) C.1.1 C.1.2.1 dX6_sheet_103 hl (k := 4) rfl (nI_1 i) (by decide) rfl (fun ls hl => ?_)
                      refine lv_goto (tgt := 83) C.1.1 C.1.2.1 dX6_sheet_106 (by decide) ?_
                      exact ih_83 (i + 1) (by omega) (by omega) _ _ _ (by rw [hv_39, upw_up] at hP; exact hP) hS (lv_sub hl [1, 2, 3, 4, 0] rfl)
                exact lp_83 (40 + 1) 0 (Nat.zero_le _) (by omega) _ _ _ (by rw [show zsF (vv.1 62) (40 * jx) 0 = vv.1 62 from rfl, upw_self]; exact hP) hS (lv_sub hl [1, 2, 3, 4, 0] rfl)
            · skip
              refine lv_aload_n C.1.1 C.1.2.1 dX6_sheet_52 rfl (lv_at hl 0 rfl) ?_
              refine lv_iconst (v := 0) C.1.1 C.1.2.1 dX6_sheet_53 rfl ?_
              refine a_F hS (run_V C hP hS hl.1 53 6 (Nat.lt_of_lt_of_le (by decide) hn) rfl (by decide) rfl [.int 0] (kX6_finds l g n v 0 (by decide)) gX6_sheet_X6_finds rfl hdX6_finds rfl ⟨rfl, rfl⟩ ⟨Nat.le_of_ble_eq_true rfl, Nat.le_of_ble_eq_true rfl⟩ rfl [] rfl (Nat.le_of_ble_eq_true rfl) dX6_sheet_54 ⟨Nat.zero_le _, Nat.zero_le _⟩) (fun H locs hP hS => ?_)
              obtain ⟨v_40, hv_40⟩ : ∃ zz, zz = fnd v 0 := ⟨_, rfl⟩
              rw [← hv_40] at hP
              exact t_F C rfl hP hS (by rw [sheetM, cif_pos ⟨jx, hjx, rfl⟩, if_pos (by first | exact Or.inl c_29 | exact Or.inr (Or.inl c_29) | exact Or.inr (Or.inr (Or.inl c_29)) | exact Or.inr (Or.inr (Or.inr c_29))), if_neg (fa_le_nlt c_30), if_pos (fa_nle c_31)]; rfl) (by rw [sheetM, cif_pos ⟨jx, hjx, rfl⟩, if_pos (by first | exact Or.inl c_29 | exact Or.inr (Or.inl c_29) | exact Or.inr (Or.inr (Or.inl c_29)) | exact Or.inr (Or.inr (Or.inr c_29))), if_neg (fa_le_nlt c_30), if_pos (fa_nle c_31), hv_40]; rfl) dX6_sheet_57
          · skip
            refine lv_aload_n C.1.1 C.1.2.1 dX6_sheet_39 rfl (lv_at hl 0 rfl) ?_
            refine lv_bipush (v := 6) C.1.1 C.1.2.1 dX6_sheet_40 rfl ?_
            refine a_F hS (run_V C hP hS hl.1 53 6 (Nat.lt_of_lt_of_le (by decide) hn) rfl (by decide) rfl [.int 6] (kX6_finds l g n v 6 (by decide)) gX6_sheet_X6_finds rfl hdX6_finds rfl ⟨rfl, rfl⟩ ⟨Nat.le_of_ble_eq_true rfl, Nat.le_of_ble_eq_true rfl⟩ rfl [] rfl (Nat.le_of_ble_eq_true rfl) dX6_sheet_42 ⟨Nat.zero_le _, Nat.zero_le _⟩) (fun H locs hP hS => ?_)
            obtain ⟨v_41, hv_41⟩ : ∃ zz, zz = fnd v 6 := ⟨_, rfl⟩
            rw [← hv_41] at hP
            exact t_F C rfl hP hS (by rw [sheetM, cif_pos ⟨jx, hjx, rfl⟩, if_pos (by first | exact Or.inl c_29 | exact Or.inr (Or.inl c_29) | exact Or.inr (Or.inr (Or.inl c_29)) | exact Or.inr (Or.inr (Or.inr c_29))), if_pos (fa_nle c_30)]; rfl) (by rw [sheetM, cif_pos ⟨jx, hjx, rfl⟩, if_pos (by first | exact Or.inl c_29 | exact Or.inr (Or.inl c_29) | exact Or.inr (Or.inr (Or.inl c_29)) | exact Or.inr (Or.inr (Or.inr c_29))), if_pos (fa_nle c_30), hv_41]; rfl) dX6_sheet_45
        · skip
          refine lv_iload_n C.1.1 C.1.2.1 dX6_sheet_23 rfl (lv_at hl 2 rfl) ?_
          refine lv_bipush (v := 32) C.1.1 C.1.2.1 dX6_sheet_24 rfl ?_
          refine lv_icmp_eq (tgt := 35) C.1.1 C.1.2.1 dX6_sheet_26 (by decide) (fun c_42 => ?_) (fun c_42 => ?_)
          · skip
            refine lv_iload_n C.1.1 C.1.2.1 dX6_sheet_35 rfl (lv_at hl 3 rfl) ?_
            refine lv_if_ge (tgt := 46) C.1.1 C.1.2.1 dX6_sheet_36 (by decide) (fun c_43 => ?_) (fun c_43 => ?_)
            · skip
              refine lv_iload_n C.1.1 C.1.2.1 dX6_sheet_46 rfl (lv_at hl 3 rfl) ?_
              refine lv_bipush (v := 40) C.1.1 C.1.2.1 dX6_sheet_47 rfl ?_
              refine lv_icmp_le (tgt := 58) C.1.1 C.1.2.1 dX6_sheet_49 (by decide) (fun c_44 => ?_) (fun c_44 => ?_)
              · skip
                refine lv_aload_n C.1.1 C.1.2.1 dX6_sheet_58 rfl (lv_at hl 0 rfl) ?_
                refine r_get C hP 53 6 (Nat.lt_of_lt_of_le (by decide) hn) rfl (by decide) rfl hi6 13 (by decide) (List.mem_of_getElem? (i := 1) rfl) rfl (val := .ref (gA g 60)) rfl dX6_sheet_59 ?_
                refine lv_iload_n C.1.1 C.1.2.1 dX6_sheet_62 rfl (lv_at hl 1 rfl) ?_
                refine lv_iload_n C.1.1 C.1.2.1 dX6_sheet_63 rfl (lv_at hl 2 rfl) ?_
                refine r_iast C hP hS 60 (Nat.lt_of_lt_of_le (by decide) hn) rfl jx rfl (N := 4) rfl (by decide) (by omega) dX6_sheet_64 (fun H locs hP hS => ?_)
                obtain ⟨v_45, hv_45⟩ : ∃ zz, zz = up v 60 jx y := ⟨_, rfl⟩
                rw [← hv_45] at hP
                refine lv_aload_n C.1.1 C.1.2.1 dX6_sheet_65 rfl (lv_at hl 0 rfl) ?_
                refine r_get C hP 53 6 (Nat.lt_of_lt_of_le (by decide) hn) rfl (by decide) rfl hi6 14 (by decide) (List.mem_of_getElem? (i := 2) rfl) rfl (val := .ref (gA g 61)) rfl dX6_sheet_66 ?_
                refine lv_iload_n C.1.1 C.1.2.1 dX6_sheet_69 rfl (lv_at hl 1 rfl) ?_
                refine lv_iload_n C.1.1 C.1.2.1 dX6_sheet_70 rfl (lv_at hl 2 rfl) ?_
                refine lv_if_ne (tgt := 78) C.1.1 C.1.2.1 dX6_sheet_71 (by decide) (fun c_46 => ?_) (fun c_46 => ?_)
                · skip
                  refine lv_iload_n C.1.1 C.1.2.1 dX6_sheet_78 rfl (lv_at hl 3 rfl) ?_
                  refine r_iast C hP hS 61 (Nat.lt_of_lt_of_le (by decide) hn) rfl jx rfl (N := 4) rfl (by decide) (by omega) dX6_sheet_79 (fun H locs hP hS => ?_)
                  obtain ⟨v_47, hv_47⟩ : ∃ zz, zz = up v_45 61 jx z := ⟨_, rfl⟩
                  rw [← hv_47] at hP
                  obtain ⟨vv, hvv⟩ : ∃ zz, zz = v_47 := ⟨_, rfl⟩
                  rw [← hvv] at hP
                  rw [hv_47, hv_45] at hvv
                  refine lv_iconst (v := 0) C.1.1 C.1.2.1 dX6_sheet_80 rfl ?_
                  refine lv_istore (lv' := [(4, .int 0), (0, .ref (gA g 53)), (1, .int (nI jx)), (2, .int y), (3, .int z)]) C.1.1 C.1.2.1 dX6_sheet_81 hl (by decide) rfl (fun ls hl => ?_)
                  have lp_83 : ∀ (k_83 i : Nat), i ≤ 40 → 40 + 1 ≤ i + k_83 → ∀ (H : Heap) (locs : List Loc) (ls : Array Slot), va_P g.1 vwCl (wl g n (upw vv 62 (zsF (vv.1 62) (40 * jx) i))) H → va_S (wA g n) s.heap H locs → lv_has ls 5 [(0, .ref (gA g 53)), (1, .int (nI jx)), (2, .int y), (3, .int z), (4, .int (nI i))] → W p l e rmX6_sheet s m args below meth c H locs 0 0 (MQ below (QF g n ((sheetM v (nI jx) y z).1) ((sheetM v (nI jx) y z).2)) args s 0 0 (wA g n)) (F0 m 83 ls []) := by
                    clear hP hS hl
                    intro k_83
                    induction k_83 with
                    | zero => exact fun i h1 h2 => absurd h2 (by omega)
                    | succ k_83 ih_83 =>
                      intro i hi_83 hk_83 H locs ls hP hS hl
                      refine lv_iload C.1.1 C.1.2.1 dX6_sheet_83 (lv_at hl 4 rfl) ?_
                      refine lv_bipush (v := 40) C.1.1 C.1.2.1 dX6_sheet_85 rfl ?_
                      refine lv_icmp_ge (tgt := 109) C.1.1 C.1.2.1 dX6_sheet_87 (by decide) (fun c_48 => ?_) (fun c_48 => ?_)
                      · rw [show (40 ≤ nI i) = (40 ≤ i) from propext (nI_leI (a := 40) (b := i) (by omega) (by omega))] at c_48
                        have hi40 : i = 40 := by omega
                        subst hi40
                        refine lv_aload_n C.1.1 C.1.2.1 dX6_sheet_109 rfl (lv_at hl 0 rfl) ?_
                        refine r_get C hP 53 6 (Nat.lt_of_lt_of_le (by decide) hn) rfl (by decide) rfl hi6 14 (by decide) (List.mem_of_getElem? (i := 2) rfl) rfl (val := .ref (gA g 61)) rfl dX6_sheet_110 ?_
                        refine lv_iload_n C.1.1 C.1.2.1 dX6_sheet_113 rfl (lv_at hl 1 rfl) ?_
                        refine r_iald C hP 61 (Nat.lt_of_lt_of_le (by decide) hn) rfl jx rfl (N := 4) rfl (by decide) (by omega) dX6_sheet_114 ?_
                        exact t_F C rfl hP hS (by rw [sheetM, cif_pos ⟨jx, hjx, rfl⟩, if_pos (by first | exact Or.inl c_42 | exact Or.inr (Or.inl c_42) | exact Or.inr (Or.inr (Or.inl c_42)) | exact Or.inr (Or.inr (Or.inr c_42))), if_neg (fa_le_nlt c_43), if_neg (fa_le_nlt c_44), tn_nI (show jx < 2 ^ 31 by omega), if_neg c_46]; show (upw vv 62 _).1 61 jx = _; rw [upw_ne _ _ (by decide), hvv, upw_same]; simp [upd]) (by rw [sheetM, cif_pos ⟨jx, hjx, rfl⟩, if_pos (by first | exact Or.inl c_42 | exact Or.inr (Or.inl c_42) | exact Or.inr (Or.inr (Or.inl c_42)) | exact Or.inr (Or.inr (Or.inr c_42))), if_neg (fa_le_nlt c_43), if_neg (fa_le_nlt c_44), tn_nI (show jx < 2 ^ 31 by omega), shS, if_neg c_46, hvv] <;> rfl) dX6_sheet_115
                      · rw [show (40 ≤ nI i) = (40 ≤ i) from propext (nI_leI (a := 40) (b := i) (by omega) (by omega))] at c_48
                        refine lv_aload_n C.1.1 C.1.2.1 dX6_sheet_90 rfl (lv_at hl 0 rfl) ?_
                        refine r_get C hP 53 6 (Nat.lt_of_lt_of_le (by decide) hn) rfl (by decide) rfl hi6 15 (by decide) (List.mem_of_getElem? (i := 3) rfl) rfl (val := .ref (gA g 62)) rfl dX6_sheet_91 ?_
                        refine lv_bipush (v := 40) C.1.1 C.1.2.1 dX6_sheet_94 rfl ?_
                        refine lv_iload_n C.1.1 C.1.2.1 dX6_sheet_96 rfl (lv_at hl 1 rfl) ?_
                        refine lv_imul C.1.1 C.1.2.1 dX6_sheet_97 ?_
                        refine lv_topE (nI (40 * jx)) (pk_mul 40 jx) ?_
                        refine lv_iload C.1.1 C.1.2.1 dX6_sheet_98 (lv_at hl 4 rfl) ?_
                        refine lv_iadd C.1.1 C.1.2.1 dX6_sheet_100 ?_
                        refine lv_topE (nI ((40 * jx) + i)) (nI_add (40 * jx) i) ?_
                        refine lv_iconst (v := 0) C.1.1 C.1.2.1 dX6_sheet_101 rfl ?_
                        refine r_iast C hP hS 62 (Nat.lt_of_lt_of_le (by decide) hn) rfl ((40 * jx) + i) rfl (N := 160) rfl (by decide) (by omega) dX6_sheet_102 (fun H locs hP hS => ?_)
                        obtain ⟨v_49, hv_49⟩ : ∃ zz, zz = up (upw vv 62 (zsF (vv.1 62) (40 * jx) i)) 62 ((40 * jx) + i) 0 := ⟨_, rfl⟩
                        rw [← hv_49] at hP
                        refine lv_iinc (v := nI (i + 1)) (lv' := [(4, .int (nI (i + 1))), (0, .ref (gA g 53)), (1, .int (nI jx)), (2, .int y), (3, .int z)]) C.1.1 C.1.2.1 dX6_sheet_103 hl (k := 4) rfl (nI_1 i) (by decide) rfl (fun ls hl => ?_)
                        refine lv_goto (tgt := 83) C.1.1 C.1.2.1 dX6_sheet_106 (by decide) ?_
                        exact ih_83 (i + 1) (by omega) (by omega) _ _ _ (by rw [hv_49, upw_up] at hP; exact hP) hS (lv_sub hl [1, 2, 3, 4, 0] rfl)
                  exact lp_83 (40 + 1) 0 (Nat.zero_le _) (by omega) _ _ _ (by rw [show zsF (vv.1 62) (40 * jx) 0 = vv.1 62 from rfl, upw_self]; exact hP) hS (lv_sub hl [1, 2, 3, 4, 0] rfl)
                · skip
                  refine lv_iconst (v := 0) C.1.1 C.1.2.1 dX6_sheet_74 rfl ?_
                  refine lv_goto (tgt := 79) C.1.1 C.1.2.1 dX6_sheet_75 (by decide) ?_
                  refine r_iast C hP hS 61 (Nat.lt_of_lt_of_le (by decide) hn) rfl jx rfl (N := 4) rfl (by decide) (by omega) dX6_sheet_79 (fun H locs hP hS => ?_)
                  obtain ⟨v_50, hv_50⟩ : ∃ zz, zz = up v_45 61 jx 0 := ⟨_, rfl⟩
                  rw [← hv_50] at hP
                  obtain ⟨vv, hvv⟩ : ∃ zz, zz = v_50 := ⟨_, rfl⟩
                  rw [← hvv] at hP
                  rw [hv_50, hv_45] at hvv
                  refine lv_iconst (v := 0) C.1.1 C.1.2.1 dX6_sheet_80 rfl ?_
                  refine lv_istore (lv' := [(4, .int 0), (0, .ref (gA g 53)), (1, .int (nI jx)), (2, .int y), (3, .int z)]) C.1.1 C.1.2.1 dX6_sheet_81 hl (by decide) rfl (fun ls hl => ?_)
                  have lp_83 : ∀ (k_83 i : Nat), i ≤ 40 → 40 + 1 ≤ i + k_83 → ∀ (H : Heap) (locs : List Loc) (ls : Array Slot), va_P g.1 vwCl (wl g n (upw vv 62 (zsF (vv.1 62) (40 * jx) i))) H → va_S (wA g n) s.heap H locs → lv_has ls 5 [(0, .ref (gA g 53)), (1, .int (nI jx)), (2, .int y), (3, .int z), (4, .int (nI i))] → W p l e rmX6_sheet s m args below meth c H locs 0 0 (MQ below (QF g n ((sheetM v (nI jx) y z).1) ((sheetM v (nI jx) y z).2)) args s 0 0 (wA g n)) (F0 m 83 ls []) := by
                    clear hP hS hl
                    intro k_83
                    induction k_83 with
                    | zero => exact fun i h1 h2 => absurd h2 (by omega)
                    | succ k_83 ih_83 =>
                      intro i hi_83 hk_83 H locs ls hP hS hl
                      refine lv_iload C.1.1 C.1.2.1 dX6_sheet_83 (lv_at hl 4 rfl) ?_
                      refine lv_bipush (v := 40) C.1.1 C.1.2.1 dX6_sheet_85 rfl ?_
                      refine lv_icmp_ge (tgt := 109) C.1.1 C.1.2.1 dX6_sheet_87 (by decide) (fun c_51 => ?_) (fun c_51 => ?_)
                      · rw [show (40 ≤ nI i) = (40 ≤ i) from propext (nI_leI (a := 40) (b := i) (by omega) (by omega))] at c_51
                        have hi40 : i = 40 := by omega
                        subst hi40
                        refine lv_aload_n C.1.1 C.1.2.1 dX6_sheet_109 rfl (lv_at hl 0 rfl) ?_
                        refine r_get C hP 53 6 (Nat.lt_of_lt_of_le (by decide) hn) rfl (by decide) rfl hi6 14 (by decide) (List.mem_of_getElem? (i := 2) rfl) rfl (val := .ref (gA g 61)) rfl dX6_sheet_110 ?_
                        refine lv_iload_n C.1.1 C.1.2.1 dX6_sheet_113 rfl (lv_at hl 1 rfl) ?_
                        refine r_iald C hP 61 (Nat.lt_of_lt_of_le (by decide) hn) rfl jx rfl (N := 4) rfl (by decide) (by omega) dX6_sheet_114 ?_
                        exact t_F C rfl hP hS (by rw [sheetM, cif_pos ⟨jx, hjx, rfl⟩, if_pos (by first | exact Or.inl c_42 | exact Or.inr (Or.inl c_42) | exact Or.inr (Or.inr (Or.inl c_42)) | exact Or.inr (Or.inr (Or.inr c_42))), if_neg (fa_le_nlt c_43), if_neg (fa_le_nlt c_44), tn_nI (show jx < 2 ^ 31 by omega), if_pos c_46]; show (upw vv 62 _).1 61 jx = _; rw [upw_ne _ _ (by decide), hvv, upw_same]; simp [upd]) (by rw [sheetM, cif_pos ⟨jx, hjx, rfl⟩, if_pos (by first | exact Or.inl c_42 | exact Or.inr (Or.inl c_42) | exact Or.inr (Or.inr (Or.inl c_42)) | exact Or.inr (Or.inr (Or.inr c_42))), if_neg (fa_le_nlt c_43), if_neg (fa_le_nlt c_44), tn_nI (show jx < 2 ^ 31 by omega), shS, if_pos c_46, hvv] <;> rfl) dX6_sheet_115
                      · rw [show (40 ≤ nI i) = (40 ≤ i) from propext (nI_leI (a := 40) (b := i) (by omega) (by omega))] at c_51
                        refine lv_aload_n C.1.1 C.1.2.1 dX6_sheet_90 rfl (lv_at hl 0 rfl) ?_
                        refine r_get C hP 53 6 (Nat.lt_of_lt_of_le (by decide) hn) rfl (by decide) rfl hi6 15 (by decide) (List.mem_of_getElem? (i := 3) rfl) rfl (val := .ref (gA g 62)) rfl dX6_sheet_91 ?_
                        refine lv_bipush (v := 40) C.1.1 C.1.2.1 dX6_sheet_94 rfl ?_
                        refine lv_iload_n C.1.1 C.1.2.1 dX6_sheet_96 rfl (lv_at hl 1 rfl) ?_
                        refine lv_imul C.1.1 C.1.2.1 dX6_sheet_97 ?_
                        refine lv_topE (nI (40 * jx)) (pk_mul 40 jx) ?_
                        refine lv_iload C.1.1 C.1.2.1 dX6_sheet_98 (lv_at hl 4 rfl) ?_
                        refine lv_iadd C.1.1 C.1.2.1 dX6_sheet_100 ?_
                        refine lv_topE (nI ((40 * jx) + i)) (nI_add (40 * jx) i) ?_
                        refine lv_iconst (v := 0) C.1.1 C.1.2.1 dX6_sheet_101 rfl ?_
                        refine r_iast C hP hS 62 (Nat.lt_of_lt_of_le (by decide) hn) rfl ((40 * jx) + i) rfl (N := 160) rfl (by decide) (by omega) dX6_sheet_102 (fun H locs hP hS => ?_)
                        obtain ⟨v_52, hv_52⟩ : ∃ zz, zz = up (upw vv 62 (zsF (vv.1 62) (40 * jx) i)) 62 ((40 * jx) + i) 0 := ⟨_, rfl⟩
                        rw [← hv_52] at hP
                        refine lv_iinc (v := nI (i + 1)) (lv' := [(4, .int (nI (i + 1))), (0, .ref (gA g 53)), (1, .int (nI jx)), (2, .int y), (3, .int z)]) C.1.1 C.1.2.1 dX6_sheet_103 hl (k := 4) rfl (nI_1 i) (by decide) rfl (fun ls hl => ?_)
                        refine lv_goto (tgt := 83) C.1.1 C.1.2.1 dX6_sheet_106 (by decide) ?_
                        exact ih_83 (i + 1) (by omega) (by omega) _ _ _ (by rw [hv_52, upw_up] at hP; exact hP) hS (lv_sub hl [1, 2, 3, 4, 0] rfl)
                  exact lp_83 (40 + 1) 0 (Nat.zero_le _) (by omega) _ _ _ (by rw [show zsF (vv.1 62) (40 * jx) 0 = vv.1 62 from rfl, upw_self]; exact hP) hS (lv_sub hl [1, 2, 3, 4, 0] rfl)
              · skip
                refine lv_aload_n C.1.1 C.1.2.1 dX6_sheet_52 rfl (lv_at hl 0 rfl) ?_
                refine lv_iconst (v := 0) C.1.1 C.1.2.1 dX6_sheet_53 rfl ?_
                refine a_F hS (run_V C hP hS hl.1 53 6 (Nat.lt_of_lt_of_le (by decide) hn) rfl (by decide) rfl [.int 0] (kX6_finds l g n v 0 (by decide)) gX6_sheet_X6_finds rfl hdX6_finds rfl ⟨rfl, rfl⟩ ⟨Nat.le_of_ble_eq_true rfl, Nat.le_of_ble_eq_true rfl⟩ rfl [] rfl (Nat.le_of_ble_eq_true rfl) dX6_sheet_54 ⟨Nat.zero_le _, Nat.zero_le _⟩) (fun H locs hP hS => ?_)
                obtain ⟨v_53, hv_53⟩ : ∃ zz, zz = fnd v 0 := ⟨_, rfl⟩
                rw [← hv_53] at hP
                exact t_F C rfl hP hS (by rw [sheetM, cif_pos ⟨jx, hjx, rfl⟩, if_pos (by first | exact Or.inl c_42 | exact Or.inr (Or.inl c_42) | exact Or.inr (Or.inr (Or.inl c_42)) | exact Or.inr (Or.inr (Or.inr c_42))), if_neg (fa_le_nlt c_43), if_pos (fa_nle c_44)]; rfl) (by rw [sheetM, cif_pos ⟨jx, hjx, rfl⟩, if_pos (by first | exact Or.inl c_42 | exact Or.inr (Or.inl c_42) | exact Or.inr (Or.inr (Or.inl c_42)) | exact Or.inr (Or.inr (Or.inr c_42))), if_neg (fa_le_nlt c_43), if_pos (fa_nle c_44), hv_53]; rfl) dX6_sheet_57
            · skip
              refine lv_aload_n C.1.1 C.1.2.1 dX6_sheet_39 rfl (lv_at hl 0 rfl) ?_
              refine lv_bipush (v := 6) C.1.1 C.1.2.1 dX6_sheet_40 rfl ?_
              refine a_F hS (run_V C hP hS hl.1 53 6 (Nat.lt_of_lt_of_le (by decide) hn) rfl (by decide) rfl [.int 6] (kX6_finds l g n v 6 (by decide)) gX6_sheet_X6_finds rfl hdX6_finds rfl ⟨rfl, rfl⟩ ⟨Nat.le_of_ble_eq_true rfl, Nat.le_of_ble_eq_true rfl⟩ rfl [] rfl (Nat.le_of_ble_eq_true rfl) dX6_sheet_42 ⟨Nat.zero_le _, Nat.zero_le _⟩) (fun H locs hP hS => ?_)
              obtain ⟨v_54, hv_54⟩ : ∃ zz, zz = fnd v 6 := ⟨_, rfl⟩
              rw [← hv_54] at hP
              exact t_F C rfl hP hS (by rw [sheetM, cif_pos ⟨jx, hjx, rfl⟩, if_pos (by first | exact Or.inl c_42 | exact Or.inr (Or.inl c_42) | exact Or.inr (Or.inr (Or.inl c_42)) | exact Or.inr (Or.inr (Or.inr c_42))), if_pos (fa_nle c_43)]; rfl) (by rw [sheetM, cif_pos ⟨jx, hjx, rfl⟩, if_pos (by first | exact Or.inl c_42 | exact Or.inr (Or.inl c_42) | exact Or.inr (Or.inr (Or.inl c_42)) | exact Or.inr (Or.inr (Or.inr c_42))), if_pos (fa_nle c_43), hv_54]; rfl) dX6_sheet_45
          · skip
            refine lv_aload_n C.1.1 C.1.2.1 dX6_sheet_29 rfl (lv_at hl 0 rfl) ?_
            refine lv_iconst (v := 0) C.1.1 C.1.2.1 dX6_sheet_30 rfl ?_
            refine a_F hS (run_V C hP hS hl.1 53 6 (Nat.lt_of_lt_of_le (by decide) hn) rfl (by decide) rfl [.int 0] (kX6_finds l g n v 0 (by decide)) gX6_sheet_X6_finds rfl hdX6_finds rfl ⟨rfl, rfl⟩ ⟨Nat.le_of_ble_eq_true rfl, Nat.le_of_ble_eq_true rfl⟩ rfl [] rfl (Nat.le_of_ble_eq_true rfl) dX6_sheet_31 ⟨Nat.zero_le _, Nat.zero_le _⟩) (fun H locs hP hS => ?_)
            obtain ⟨v_55, hv_55⟩ : ∃ zz, zz = fnd v 0 := ⟨_, rfl⟩
            rw [← hv_55] at hP
            exact t_F C rfl hP hS (by rw [sheetM, cif_pos ⟨jx, hjx, rfl⟩, if_neg (fun h => h.elim c_3 (fun h => h.elim c_16 (fun h => h.elim c_29 c_42)))]; rfl) (by rw [sheetM, cif_pos ⟨jx, hjx, rfl⟩, if_neg (fun h => h.elim c_3 (fun h => h.elim c_16 (fun h => h.elim c_29 c_42))), hv_55]; rfl) dX6_sheet_34
  · skip
    refine lv_if_eq (tgt := 29) C.1.1 C.1.2.1 dX6_sheet_4 (by decide) (fun _ => ?_) (fun c_56 => absurd c_56 (by decide))
    refine lv_aload_n C.1.1 C.1.2.1 dX6_sheet_29 rfl (lv_at hl 0 rfl) ?_
    refine lv_iconst (v := 0) C.1.1 C.1.2.1 dX6_sheet_30 rfl ?_
    refine a_F hS (run_V C hP hS hl.1 53 6 (Nat.lt_of_lt_of_le (by decide) hn) rfl (by decide) rfl [.int 0] (kX6_finds l g n v 0 (by decide)) gX6_sheet_X6_finds rfl hdX6_finds rfl ⟨rfl, rfl⟩ ⟨Nat.le_of_ble_eq_true rfl, Nat.le_of_ble_eq_true rfl⟩ rfl [] rfl (Nat.le_of_ble_eq_true rfl) dX6_sheet_31 ⟨Nat.zero_le _, Nat.zero_le _⟩) (fun H locs hP hS => ?_)
    obtain ⟨v_57, hv_57⟩ : ∃ zz, zz = fnd v 0 := ⟨_, rfl⟩
    rw [← hv_57] at hP
    exact t_F C rfl hP hS (by rw [sheetM, cif_neg b_1]; rfl) (by rw [sheetM, cif_neg b_1, hv_57]; rfl) dX6_sheet_34

