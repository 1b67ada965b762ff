abbrev rmX6_ahead : Room := { frames := 5, cells := 0, slots := 0, locals := 112 }
set_option maxHeartbeats 4000000 in
set_option maxRecDepth 100000 in
theorem kX6_ahead (l : Launch) (g : GG) (n : Nat) (v : SV) (x y z : Int32) (N : Nat) (hM : okM (v.1 54) N) : Met l yX6_ahead wsX6_ahead rmX6_ahead (PW g n v [.ref (gA g 53), .int x, .int y, .int z]) (QF g n ((aheadM v x y z).1) ((aheadM v x y z).2)) 0 0 (wA g n) := by
  refine Met.begin RX6 rfl (by decide) rfl (Nat.le_of_ble_eq_true rfl) ?_
  intro p e s m args below meth c ls ha C hP hS hl
  have hn : 64 ≤ n := C.2.1.1.2.1
  have hi6 : ∀ w ∈ u_ws RX6 TX6 17, w ∈ wsX6_ahead := by decide +kernel
  have hl : lv_has ls 5 [(0, .ref (gA g 53)), (1, .int x), (2, .int y), (3, .int z)] := hl
  have h8 := hM.1
  refine lv_aload_n C.1.1 C.1.2.1 dX6_ahead_0 rfl (lv_at hl 0 rfl) ?_
  refine lv_iload_n C.1.1 C.1.2.1 dX6_ahead_1 rfl (lv_at hl 1 rfl) ?_
  refine a_B hS (run_V C hP hS hl.1 53 6 (Nat.lt_of_lt_of_le (by decide) hn) rfl (by decide) rfl [.int x] (kX6_isResident l g n v x N hM) gX6_ahead_X6_isResident rfl hdX6_isResident rfl ⟨rfl, rfl⟩ ⟨Nat.le_of_ble_eq_true rfl, Nat.le_of_ble_eq_true rfl⟩ rfl [] rfl (Nat.le_of_ble_eq_true rfl) dX6_ahead_2 ⟨Nat.zero_le _, Nat.zero_le _⟩) (fun b_1 H locs hP hS => ?_) (fun b_1 H locs hP hS => ?_)
  · skip
    obtain ⟨jx, hjx, rfl⟩ := b_1
    refine lv_if_eq (tgt := 40) C.1.1 C.1.2.1 dX6_ahead_5 (by decide) (fun c_2 => absurd c_2 (by decide)) (fun _ => ?_)
    refine lv_iload_n C.1.1 C.1.2.1 dX6_ahead_8 rfl (lv_at hl 2 rfl) ?_
    refine lv_i2l (v := y.toInt64) C.1.1 C.1.2.1 dX6_ahead_9 rfl ?_
    refine lv_ldc2 (v := 2) C.1.1 C.1.2.1 C.1.2.2.2.1 (C.1.2.2.2.2 _ (List.mem_of_getElem? (i := 1) rfl)) dX6_ahead_10 ?_
    refine lv_ldc2 (v := 4) C.1.1 C.1.2.1 C.1.2.2.2.1 (C.1.2.2.2.2 _ (List.mem_of_getElem? (i := 2) rfl)) dX6_ahead_13 ?_
    refine a_B hS (run_S C hP hS hl.1 [.long y.toInt64, .long 2, .long 4] (kX6_in l g n v y.toInt64 2 4) gX6_ahead_X6_in hdX6_in rfl ⟨rfl, rfl⟩ ⟨Nat.le_of_ble_eq_true rfl, Nat.le_of_ble_eq_true rfl⟩ rfl [] rfl (Nat.le_of_ble_eq_true rfl) dX6_ahead_16 ⟨Nat.zero_le _, Nat.zero_le _⟩) (fun b_3 H locs hP hS => ?_) (fun b_3 H locs hP hS => ?_)
    · skip
      have b_3 := (in_iff2 2 5 (by decide) (by decide) (by decide)).mp b_3
      obtain ⟨jy, hljy, hjy, rfl⟩ := b_3
      refine lv_if_ne (tgt := 28) C.1.1 C.1.2.1 dX6_ahead_19 (by decide) (fun _ => ?_) (fun c_4 => absurd c_4 (by decide))
      refine lv_iload_n C.1.1 C.1.2.1 dX6_ahead_28 rfl (lv_at hl 3 rfl) ?_
      refine lv_i2l (v := z.toInt64) C.1.1 C.1.2.1 dX6_ahead_29 rfl ?_
      refine lv_lconst (v := 0) C.1.1 C.1.2.1 dX6_ahead_30 rfl ?_
      refine lv_ldc2 (v := 100) C.1.1 C.1.2.1 C.1.2.2.2.1 (C.1.2.2.2.2 _ (List.mem_of_getElem? (i := 3) rfl)) dX6_ahead_31 ?_
      refine a_B hS (run_S C hP hS hl.1 [.long z.toInt64, .long 0, .long 100] (kX6_in l g n v z.toInt64 0 100) gX6_ahead_X6_in hdX6_in rfl ⟨rfl, rfl⟩ ⟨Nat.le_of_ble_eq_true rfl, Nat.le_of_ble_eq_true rfl⟩ rfl [] rfl (Nat.le_of_ble_eq_true rfl) dX6_ahead_34 ⟨Nat.zero_le _, Nat.zero_le _⟩) (fun b_5 H locs hP hS => ?_) (fun b_5 H locs hP hS => ?_)
      · skip
        have b_5 := (in_iff 101 (by decide) (by decide)).mp b_5
        obtain ⟨jz, hjz, rfl⟩ := b_5
        refine lv_if_ne (tgt := 46) C.1.1 C.1.2.1 dX6_ahead_37 (by decide) (fun _ => ?_) (fun c_6 => absurd c_6 (by decide))
        refine lv_aload_n C.1.1 C.1.2.1 dX6_ahead_46 rfl (lv_at hl 0 rfl) ?_
        refine r_get C hP 53 6 (Nat.lt_of_lt_of_le (by decide) hn) rfl (by decide) rfl hi6 0 (by decide) (List.mem_of_getElem? (i := 4) rfl) rfl (val := .ref (gA g 54)) rfl dX6_ahead_47 ?_
        refine lv_aload_n C.1.1 C.1.2.1 dX6_ahead_50 rfl (lv_at hl 0 rfl) ?_
        refine r_get C hP 53 6 (Nat.lt_of_lt_of_le (by decide) hn) rfl (by decide) rfl hi6 2 (by decide) (List.mem_of_getElem? (i := 5) rfl) rfl (val := .ref (gA g 56)) rfl dX6_ahead_51 ?_
        refine a_G hS (run_S C hP hS hl.1 [.ref (gA g 54), .ref (gA g 56)] (kX6_copies l g n v 54 56 (by decide) (by decide) (by decide)) gX6_ahead_X6_copies hdX6_copies rfl ⟨rfl, rfl⟩ ⟨Nat.le_of_ble_eq_true rfl, Nat.le_of_ble_eq_true rfl⟩ rfl [] rfl (Nat.le_of_ble_eq_true rfl) dX6_ahead_54 ⟨Nat.zero_le _, Nat.zero_le _⟩) (fun H locs hP hS => ?_)
        obtain ⟨v_7, hv_7⟩ : ∃ zz, zz = upw v 56 (cpyM (v.1 54) (v.1 56) 83) := ⟨_, rfl⟩
        rw [← hv_7] at hP
        rw [show v_7 = asideM v from hv_7] at hP
        refine lv_aload_n C.1.1 C.1.2.1 dX6_ahead_57 rfl (lv_at hl 0 rfl) ?_
        refine lv_iload_n C.1.1 C.1.2.1 dX6_ahead_58 rfl (lv_at hl 3 rfl) ?_
        refine a_G hS (run_V C hP hS hl.1 53 6 (Nat.lt_of_lt_of_le (by decide) hn) rfl (by decide) rfl [.int (nI jz)] (kX6_daysGo l g n (asideM v) jz N (by omega) (okA hM)) gX6_ahead_X6_daysGo rfl hdX6_daysGo rfl ⟨rfl, rfl⟩ ⟨Nat.le_of_ble_eq_true rfl, Nat.le_of_ble_eq_true rfl⟩ rfl [] rfl (Nat.le_of_ble_eq_true rfl) dX6_ahead_59 ⟨Nat.zero_le _, Nat.zero_le _⟩) (fun H locs hP hS => ?_)
        obtain ⟨v_8, hv_8⟩ : ∃ zz, zz = upw (asideM v) 54 (daysM ((asideM v).1 54) jz) := ⟨_, rfl⟩
        rw [← hv_8] at hP
        rw [asideM_54] at hv_8
        have e2 : v_8.1 54 = daysM (v.1 54) jz := by rw [hv_8, upw_same]
        refine lv_iload_n C.1.1 C.1.2.1 dX6_ahead_62 rfl (lv_at hl 2 rfl) ?_
        refine lv_bipush (v := 6) C.1.1 C.1.2.1 dX6_ahead_63 rfl ?_
        refine lv_icmp_ne (tgt := 76) C.1.1 C.1.2.1 dX6_ahead_65 (by decide) (fun c_9 => ?_) (fun c_9 => ?_)
        · rw [show (nI jy = 6) = (jy = 6) from propext (nI_eq (a := jy) (b := 6) (by omega) (by omega))] at c_9
          refine lv_aload_n C.1.1 C.1.2.1 dX6_ahead_76 rfl (lv_at hl 0 rfl) ?_
          refine lv_iload_n C.1.1 C.1.2.1 dX6_ahead_77 rfl (lv_at hl 1 rfl) ?_
          refine lv_iload_n C.1.1 C.1.2.1 dX6_ahead_78 rfl (lv_at hl 2 rfl) ?_
          refine a_F hS (run_V C hP hS hl.1 53 6 (Nat.lt_of_lt_of_le (by decide) hn) rfl (by decide) rfl [.int (nI jx), .int (nI jy)] (kX6_its l g n v_8 jx jy (by omega) (by omega)) gX6_ahead_X6_its rfl hdX6_its rfl ⟨rfl, rfl⟩ ⟨Nat.le_of_ble_eq_true rfl, Nat.le_of_ble_eq_true rfl⟩ rfl [] rfl (Nat.le_of_ble_eq_true rfl) dX6_ahead_79 ⟨Nat.zero_le _, Nat.zero_le _⟩) (fun H locs hP hS => ?_)
          refine lv_istore (lv' := [(4, .int (rowM (v_8.1 54) jx jy)), (0, .ref (gA g 53)), (1, .int (nI jx)), (2, .int (nI jy)), (3, .int (nI jz))]) C.1.1 C.1.2.1 dX6_ahead_82 hl (by decide) rfl (fun ls hl => ?_)
          refine lv_aload_n C.1.1 C.1.2.1 dX6_ahead_84 rfl (lv_at hl 1 rfl) ?_
          refine r_get C hP 53 6 (Nat.lt_of_lt_of_le (by decide) hn) rfl (by decide) rfl hi6 2 (by decide) (List.mem_of_getElem? (i := 5) rfl) rfl (val := .ref (gA g 56)) rfl dX6_ahead_85 ?_
          refine lv_aload_n C.1.1 C.1.2.1 dX6_ahead_88 rfl (lv_at hl 1 rfl) ?_
          refine r_get C hP 53 6 (Nat.lt_of_lt_of_le (by decide) hn) rfl (by decide) rfl hi6 0 (by decide) (List.mem_of_getElem? (i := 4) rfl) rfl (val := .ref (gA g 54)) rfl dX6_ahead_89 ?_
          refine a_G hS (run_S C hP hS hl.1 [.ref (gA g 56), .ref (gA g 54)] (kX6_copies l g n v_8 56 54 (by decide) (by decide) (by decide)) gX6_ahead_X6_copies hdX6_copies rfl ⟨rfl, rfl⟩ ⟨Nat.le_of_ble_eq_true rfl, Nat.le_of_ble_eq_true rfl⟩ rfl [] rfl (Nat.le_of_ble_eq_true rfl) dX6_ahead_92 ⟨Nat.zero_le _, Nat.zero_le _⟩) (fun H locs hP hS => ?_)
          obtain ⟨v_10, hv_10⟩ : ∃ zz, zz = upw v_8 54 (cpyM (v_8.1 56) (v_8.1 54) 83) := ⟨_, rfl⟩
          rw [← hv_10] at hP
          rw [show v_10 = asideM v from by rw [hv_10]; rw [hv_8]; exact restoreM (fun j hj => daysM_hi hM hj jz)] at hP
          refine lv_iload C.1.1 C.1.2.1 dX6_ahead_95 (lv_at hl 0 rfl) ?_
          exact t_F C rfl hP hS (by rw [e2]; (rw [aheadM, nM_eq hM]; rw [cif_pos ⟨jx, hjx, rfl⟩]; rw [cif_pos ⟨jy, hljy, hjy, rfl⟩]; rw [cif_pos ⟨jz, hjz, rfl⟩]); rw [tn_nI (show jx < 2 ^ 31 by omega), tn_nI (show jz < 2 ^ 31 by omega)]; rw [tellF_lt (by omega)]) (by (rw [aheadM, nM_eq hM]; rw [cif_pos ⟨jx, hjx, rfl⟩]; rw [cif_pos ⟨jy, hljy, hjy, rfl⟩]; rw [cif_pos ⟨jz, hjz, rfl⟩])) dX6_ahead_97
        · rw [show (nI jy = 6) = (jy = 6) from propext (nI_eq (a := jy) (b := 6) (by omega) (by omega))] at c_9
          exact absurd c_9 (by omega)
      · skip
        have b_5 := fun h => b_5 ((in_iff 101 (by decide) (by decide)).mpr h)
        refine lv_if_ne (tgt := 46) C.1.1 C.1.2.1 dX6_ahead_37 (by decide) (fun c_11 => absurd c_11 (by decide)) (fun _ => ?_)
        refine lv_aload_n C.1.1 C.1.2.1 dX6_ahead_40 rfl (lv_at hl 0 rfl) ?_
        refine lv_iconst (v := 0) C.1.1 C.1.2.1 dX6_ahead_41 rfl ?_
        refine a_F hS (run_V C hP hS hl.1 53 6 (Nat.lt_of_lt_of_le (by decide) hn) rfl (by decide) rfl [.int 0] (kX6_finds l g n v 0 (by decide)) gX6_ahead_X6_finds rfl hdX6_finds rfl ⟨rfl, rfl⟩ ⟨Nat.le_of_ble_eq_true rfl, Nat.le_of_ble_eq_true rfl⟩ rfl [] rfl (Nat.le_of_ble_eq_true rfl) dX6_ahead_42 ⟨Nat.zero_le _, Nat.zero_le _⟩) (fun H locs hP hS => ?_)
        obtain ⟨v_12, hv_12⟩ : ∃ zz, zz = fnd v 0 := ⟨_, rfl⟩
        rw [← hv_12] at hP
        exact t_F C rfl hP hS (by (rw [aheadM, nM_eq hM]; rw [cif_pos ⟨jx, hjx, rfl⟩]; rw [cif_pos ⟨jy, hljy, hjy, rfl⟩]; (try simp only [tn_nI (show jx < 2 ^ 31 by omega), tn_nI (show jy < 2 ^ 31 by omega)]); rw [cif_neg b_5]) <;> try simp only [fdM, upw_same, eq_self, if_true, if_false, ite_true, ite_false, ↓reduceIte, tn_nI (show jx < 2 ^ 31 by omega), tn_nI (show jy < 2 ^ 31 by omega), hv_12, nM_eq hM]) (by (rw [aheadM, nM_eq hM]; rw [cif_pos ⟨jx, hjx, rfl⟩]; rw [cif_pos ⟨jy, hljy, hjy, rfl⟩]; (try simp only [tn_nI (show jx < 2 ^ 31 by omega), tn_nI (show jy < 2 ^ 31 by omega)]); rw [cif_neg b_5]) <;> try simp only [fdM, upw_same, eq_self, if_true, if_false, ite_true, ite_false, ↓reduceIte, tn_nI (show jx < 2 ^ 31 by omega), tn_nI (show jy < 2 ^ 31 by omega), hv_12, nM_eq hM]) dX6_ahead_45
    · skip
      have b_3 := fun h => b_3 ((in_iff2 2 5 (by decide) (by decide) (by decide)).mpr h)
      refine lv_if_ne (tgt := 28) C.1.1 C.1.2.1 dX6_ahead_19 (by decide) (fun c_13 => absurd c_13 (by decide)) (fun _ => ?_)
      refine lv_iload_n C.1.1 C.1.2.1 dX6_ahead_22 rfl (lv_at hl 2 rfl) ?_
      refine lv_bipush (v := 6) C.1.1 C.1.2.1 dX6_ahead_23 rfl ?_
      refine lv_icmp_ne (tgt := 40) C.1.1 C.1.2.1 dX6_ahead_25 (by decide) (fun c_14 => ?_) (fun c_14 => ?_)
      · skip
        refine lv_aload_n C.1.1 C.1.2.1 dX6_ahead_40 rfl (lv_at hl 0 rfl) ?_
        refine lv_iconst (v := 0) C.1.1 C.1.2.1 dX6_ahead_41 rfl ?_
        refine a_F hS (run_V C hP hS hl.1 53 6 (Nat.lt_of_lt_of_le (by decide) hn) rfl (by decide) rfl [.int 0] (kX6_finds l g n v 0 (by decide)) gX6_ahead_X6_finds rfl hdX6_finds rfl ⟨rfl, rfl⟩ ⟨Nat.le_of_ble_eq_true rfl, Nat.le_of_ble_eq_true rfl⟩ rfl [] rfl (Nat.le_of_ble_eq_true rfl) dX6_ahead_42 ⟨Nat.zero_le _, Nat.zero_le _⟩) (fun H locs hP hS => ?_)
        obtain ⟨v_15, hv_15⟩ : ∃ zz, zz = fnd v 0 := ⟨_, rfl⟩
        rw [← hv_15] at hP
        exact t_F C rfl hP hS (by (rw [aheadM, nM_eq hM]; rw [cif_pos ⟨jx, hjx, rfl⟩]; (try simp only [tn_nI (show jx < 2 ^ 31 by omega)]); rw [cif_neg b_3]; (try simp only [tn_nI (show jx < 2 ^ 31 by omega)]); rw [if_neg c_14]) <;> try simp only [fdM, upw_same, eq_self, if_true, if_false, ite_true, ite_false, ↓reduceIte, c_14, tn_nI (show jx < 2 ^ 31 by omega), hv_15, nM_eq hM]) (by (rw [aheadM, nM_eq hM]; rw [cif_pos ⟨jx, hjx, rfl⟩]; (try simp only [tn_nI (show jx < 2 ^ 31 by omega)]); rw [cif_neg b_3]; (try simp only [tn_nI (show jx < 2 ^ 31 by omega)]); rw [if_neg c_14]) <;> try simp only [fdM, upw_same, eq_self, if_true, if_false, ite_true, ite_false, ↓reduceIte, c_14, tn_nI (show jx < 2 ^ 31 by omega), hv_15, nM_eq hM]) dX6_ahead_45
      · skip
        subst c_14
        refine lv_iload_n C.1.1 C.1.2.1 dX6_ahead_28 rfl (lv_at hl 3 rfl) ?_
        refine lv_i2l (v := z.toInt64) C.1.1 C.1.2.1 dX6_ahead_29 rfl ?_
        refine lv_lconst (v := 0) C.1.1 C.1.2.1 dX6_ahead_30 rfl ?_
        refine lv_ldc2 (v := 100) C.1.1 C.1.2.1 C.1.2.2.2.1 (C.1.2.2.2.2 _ (List.mem_of_getElem? (i := 3) rfl)) dX6_ahead_31 ?_
        refine a_B hS (run_S C hP hS hl.1 [.long z.toInt64, .long 0, .long 100] (kX6_in l g n v z.toInt64 0 100) gX6_ahead_X6_in hdX6_in rfl ⟨rfl, rfl⟩ ⟨Nat.le_of_ble_eq_true rfl, Nat.le_of_ble_eq_true rfl⟩ rfl [] rfl (Nat.le_of_ble_eq_true rfl) dX6_ahead_34 ⟨Nat.zero_le _, Nat.zero_le _⟩) (fun b_16 H locs hP hS => ?_) (fun b_16 H locs hP hS => ?_)
        · skip
          have b_16 := (in_iff 101 (by decide) (by decide)).mp b_16
          obtain ⟨jz, hjz, rfl⟩ := b_16
          refine lv_if_ne (tgt := 46) C.1.1 C.1.2.1 dX6_ahead_37 (by decide) (fun _ => ?_) (fun c_17 => absurd c_17 (by decide))
          refine lv_aload_n C.1.1 C.1.2.1 dX6_ahead_46 rfl (lv_at hl 0 rfl) ?_
          refine r_get C hP 53 6 (Nat.lt_of_lt_of_le (by decide) hn) rfl (by decide) rfl hi6 0 (by decide) (List.mem_of_getElem? (i := 4) rfl) rfl (val := .ref (gA g 54)) rfl dX6_ahead_47 ?_
          refine lv_aload_n C.1.1 C.1.2.1 dX6_ahead_50 rfl (lv_at hl 0 rfl) ?_
          refine r_get C hP 53 6 (Nat.lt_of_lt_of_le (by decide) hn) rfl (by decide) rfl hi6 2 (by decide) (List.mem_of_getElem? (i := 5) rfl) rfl (val := .ref (gA g 56)) rfl dX6_ahead_51 ?_
          refine a_G hS (run_S C hP hS hl.1 [.ref (gA g 54), .ref (gA g 56)] (kX6_copies l g n v 54 56 (by decide) (by decide) (by decide)) gX6_ahead_X6_copies hdX6_copies rfl ⟨rfl, rfl⟩ ⟨Nat.le_of_ble_eq_true rfl, Nat.le_of_ble_eq_true rfl⟩ rfl [] rfl (Nat.le_of_ble_eq_true rfl) dX6_ahead_54 ⟨Nat.zero_le _, Nat.zero_le _⟩) (fun H locs hP hS => ?_)
          obtain ⟨v_18, hv_18⟩ : ∃ zz, zz = upw v 56 (cpyM (v.1 54) (v.1 56) 83) := ⟨_, rfl⟩
          rw [← hv_18] at hP
          rw [show v_18 = asideM v from hv_18] at hP
          refine lv_aload_n C.1.1 C.1.2.1 dX6_ahead_57 rfl (lv_at hl 0 rfl) ?_
          refine lv_iload_n C.1.1 C.1.2.1 dX6_ahead_58 rfl (lv_at hl 3 rfl) ?_
          refine a_G hS (run_V C hP hS hl.1 53 6 (Nat.lt_of_lt_of_le (by decide) hn) rfl (by decide) rfl [.int (nI jz)] (kX6_daysGo l g n (asideM v) jz N (by omega) (okA hM)) gX6_ahead_X6_daysGo rfl hdX6_daysGo rfl ⟨rfl, rfl⟩ ⟨Nat.le_of_ble_eq_true rfl, Nat.le_of_ble_eq_true rfl⟩ rfl [] rfl (Nat.le_of_ble_eq_true rfl) dX6_ahead_59 ⟨Nat.zero_le _, Nat.zero_le _⟩) (fun H locs hP hS => ?_)
          obtain ⟨v_19, hv_19⟩ : ∃ zz, zz = upw (asideM v) 54 (daysM ((asideM v).1 54) jz) := ⟨_, rfl⟩
          rw [← hv_19] at hP
          rw [asideM_54] at hv_19
          have e2 : v_19.1 54 = daysM (v.1 54) jz := by rw [hv_19, upw_same]
          refine lv_iload_n C.1.1 C.1.2.1 dX6_ahead_62 rfl (lv_at hl 2 rfl) ?_
          refine lv_bipush (v := 6) C.1.1 C.1.2.1 dX6_ahead_63 rfl ?_
          refine lv_icmp_ne (tgt := 76) C.1.1 C.1.2.1 dX6_ahead_65 (by decide) (fun c_20 => absurd c_20 (by decide)) (fun _ => ?_)
          refine lv_aload_n C.1.1 C.1.2.1 dX6_ahead_68 rfl (lv_at hl 0 rfl) ?_
          refine lv_iload_n C.1.1 C.1.2.1 dX6_ahead_69 rfl (lv_at hl 1 rfl) ?_
          refine a_F hS (run_V C hP hS hl.1 53 6 (Nat.lt_of_lt_of_le (by decide) hn) rfl (by decide) rfl [.int (nI jx)] (kX6_hears l g n v_19 jx (by omega)) gX6_ahead_X6_hears rfl hdX6_hears rfl ⟨rfl, rfl⟩ ⟨Nat.le_of_ble_eq_true rfl, Nat.le_of_ble_eq_true rfl⟩ rfl [] rfl (Nat.le_of_ble_eq_true rfl) dX6_ahead_70 ⟨Nat.zero_le _, Nat.zero_le _⟩) (fun H locs hP hS => ?_)
          refine lv_goto (tgt := 82) C.1.1 C.1.2.1 dX6_ahead_73 (by decide) ?_
          refine lv_istore (lv' := [(4, .int (hearF (rowM (v_19.1 54) jx) (v_19.1 54 5))), (0, .ref (gA g 53)), (1, .int (nI jx)), (2, .int 6), (3, .int (nI jz))]) C.1.1 C.1.2.1 dX6_ahead_82 hl (by decide) rfl (fun ls hl => ?_)
          refine lv_aload_n C.1.1 C.1.2.1 dX6_ahead_84 rfl (lv_at hl 1 rfl) ?_
          refine r_get C hP 53 6 (Nat.lt_of_lt_of_le (by decide) hn) rfl (by decide) rfl hi6 2 (by decide) (List.mem_of_getElem? (i := 5) rfl) rfl (val := .ref (gA g 56)) rfl dX6_ahead_85 ?_
          refine lv_aload_n C.1.1 C.1.2.1 dX6_ahead_88 rfl (lv_at hl 1 rfl) ?_
          refine r_get C hP 53 6 (Nat.lt_of_lt_of_le (by decide) hn) rfl (by decide) rfl hi6 0 (by decide) (List.mem_of_getElem? (i := 4) rfl) rfl (val := .ref (gA g 54)) rfl dX6_ahead_89 ?_
          refine a_G hS (run_S C hP hS hl.1 [.ref (gA g 56), .ref (gA g 54)] (kX6_copies l g n v_19 56 54 (by decide) (by decide) (by decide)) gX6_ahead_X6_copies hdX6_copies rfl ⟨rfl, rfl⟩ ⟨Nat.le_of_ble_eq_true rfl, Nat.le_of_ble_eq_true rfl⟩ rfl [] rfl (Nat.le_of_ble_eq_true rfl) dX6_ahead_92 ⟨Nat.zero_le _, Nat.zero_le _⟩) (fun H locs hP hS => ?_)
          obtain ⟨v_21, hv_21⟩ : ∃ zz, zz = upw v_19 54 (cpyM (v_19.1 56) (v_19.1 54) 83) := ⟨_, rfl⟩
          rw [← hv_21] at hP
          rw [show v_21 = asideM v from by rw [hv_21]; rw [hv_19]; exact restoreM (fun j hj => daysM_hi hM hj jz)] at hP
          refine lv_iload C.1.1 C.1.2.1 dX6_ahead_95 (lv_at hl 0 rfl) ?_
          exact t_F C rfl hP hS (by rw [e2]; (rw [aheadM, nM_eq hM]; rw [cif_pos ⟨jx, hjx, rfl⟩]; rw [cif_neg b_3]; rw [if_pos rfl]; rw [cif_pos ⟨jz, hjz, rfl⟩]); rw [tn_nI (show jx < 2 ^ 31 by omega), tn_nI (show jz < 2 ^ 31 by omega)]; rfl) (by (rw [aheadM, nM_eq hM]; rw [cif_pos ⟨jx, hjx, rfl⟩]; rw [cif_neg b_3]; rw [if_pos rfl]; rw [cif_pos ⟨jz, hjz, rfl⟩])) dX6_ahead_97
        · skip
          have b_16 := fun h => b_16 ((in_iff 101 (by decide) (by decide)).mpr h)
          refine lv_if_ne (tgt := 46) C.1.1 C.1.2.1 dX6_ahead_37 (by decide) (fun c_22 => absurd c_22 (by decide)) (fun _ => ?_)
          refine lv_aload_n C.1.1 C.1.2.1 dX6_ahead_40 rfl (lv_at hl 0 rfl) ?_
          refine lv_iconst (v := 0) C.1.1 C.1.2.1 dX6_ahead_41 rfl ?_
          refine a_F hS (run_V C hP hS hl.1 53 6 (Nat.lt_of_lt_of_le (by decide) hn) rfl (by decide) rfl [.int 0] (kX6_finds l g n v 0 (by decide)) gX6_ahead_X6_finds rfl hdX6_finds rfl ⟨rfl, rfl⟩ ⟨Nat.le_of_ble_eq_true rfl, Nat.le_of_ble_eq_true rfl⟩ rfl [] rfl (Nat.le_of_ble_eq_true rfl) dX6_ahead_42 ⟨Nat.zero_le _, Nat.zero_le _⟩) (fun H locs hP hS => ?_)
          obtain ⟨v_23, hv_23⟩ : ∃ zz, zz = fnd v 0 := ⟨_, rfl⟩
          rw [← hv_23] at hP
          exact t_F C rfl hP hS (by (rw [aheadM, nM_eq hM]; rw [cif_pos ⟨jx, hjx, rfl⟩]; (try simp only [tn_nI (show jx < 2 ^ 31 by omega)]); rw [cif_neg b_3]; (try simp only [tn_nI (show jx < 2 ^ 31 by omega)]); (first | rw [if_pos rfl] | rw [if_pos trivial]); (try simp only [tn_nI (show jx < 2 ^ 31 by omega)]); rw [cif_neg b_16]) <;> try simp only [fdM, upw_same, eq_self, if_true, if_false, ite_true, ite_false, ↓reduceIte, tn_nI (show jx < 2 ^ 31 by omega), hv_23, nM_eq hM]) (by (rw [aheadM, nM_eq hM]; rw [cif_pos ⟨jx, hjx, rfl⟩]; (try simp only [tn_nI (show jx < 2 ^ 31 by omega)]); rw [cif_neg b_3]; (try simp only [tn_nI (show jx < 2 ^ 31 by omega)]); (first | rw [if_pos rfl] | rw [if_pos trivial]); (try simp only [tn_nI (show jx < 2 ^ 31 by omega)]); rw [cif_neg b_16]) <;> try simp only [fdM, upw_same, eq_self, if_true, if_false, ite_true, ite_false, ↓reduceIte, tn_nI (show jx < 2 ^ 31 by omega), hv_23, nM_eq hM]) dX6_ahead_45
  · skip
    refine lv_if_eq (tgt := 40) C.1.1 C.1.2.1 dX6_ahead_5 (by decide) (fun _ => ?_) (fun c_24 => absurd c_24 (by decide))
    refine lv_aload_n C.1.1 C.1.2.1 dX6_ahead_40 rfl (lv_at hl 0 rfl) ?_
    refine lv_iconst (v := 0) C.1.1 C.1.2.1 dX6_ahead_41 rfl ?_
    refine a_F hS (run_V C hP hS hl.1 53 6 (Nat.lt_of_lt_of_le (by decide) hn) rfl (by decide) rfl [.int 0] (kX6_finds l g n v 0 (by decide)) gX6_ahead_X6_finds rfl hdX6_finds rfl ⟨rfl, rfl⟩ ⟨Nat.le_of_ble_eq_true rfl, Nat.le_of_ble_eq_true rfl⟩ rfl [] rfl (Nat.le_of_ble_eq_true rfl) dX6_ahead_42 ⟨Nat.zero_le _, Nat.zero_le _⟩) (fun H locs hP hS => ?_)
    obtain ⟨v_25, hv_25⟩ : ∃ zz, zz = fnd v 0 := ⟨_, rfl⟩
    rw [← hv_25] at hP
    exact t_F C rfl hP hS (by (rw [aheadM, nM_eq hM]; rw [cif_neg b_1]) <;> try simp only [fdM, upw_same, eq_self, if_true, if_false, ite_true, ite_false, ↓reduceIte, hv_25, nM_eq hM]) (by (rw [aheadM, nM_eq hM]; rw [cif_neg b_1]) <;> try simp only [fdM, upw_same, eq_self, if_true, if_false, ite_true, ite_false, ↓reduceIte, hv_25, nM_eq hM]) dX6_ahead_45

abbrev rmX6_gold : Room := { frames := 6, cells := 0, slots := 0, locals := 135 }
set_option maxHeartbeats 4000000 in
set_option maxRecDepth 100000 in
theorem kX6_gold (l : Launch) (g : GG) (n : Nat) (v : SV) (x : Int32) (N : Nat) (hM : okM (v.1 54) N) : Met l yX6_gold wsX6_gold rmX6_gold (PW g n v [.ref (gA g 53), .int x]) (QF g n ((goldM v x).1) ((goldM v x).2)) 0 0 (wA g n) := by
  refine Met.begin RX6 rfl (by decide) rfl (Nat.le_of_ble_eq_true rfl) ?_
  intro p e s m args below meth c ls ha C hP hS hl
  have hn : 64 ≤ n := C.2.1.1.2.1
  have hi6 : ∀ w ∈ u_ws RX6 TX6 17, w ∈ wsX6_gold := by decide +kernel
  have hl : lv_has ls 2 [(0, .ref (gA g 53)), (1, .int x)] := hl
  have h8 := hM.1
  refine lv_iload_n C.1.1 C.1.2.1 dX6_gold_0 rfl (lv_at hl 1 rfl) ?_
  refine lv_i2l (v := x.toInt64) C.1.1 C.1.2.1 dX6_gold_1 rfl ?_
  refine lv_lconst (v := 0) C.1.1 C.1.2.1 dX6_gold_2 rfl ?_
  refine lv_ldc2 (v := 100) C.1.1 C.1.2.1 C.1.2.2.2.1 (C.1.2.2.2.2 _ (List.mem_of_getElem? (i := 1) rfl)) dX6_gold_3 ?_
  refine a_B hS (run_S C hP hS hl.1 [.long x.toInt64, .long 0, .long 100] (kX6_in l g n v x.toInt64 0 100) gX6_gold_X6_in hdX6_in rfl ⟨rfl, rfl⟩ ⟨Nat.le_of_ble_eq_true rfl, Nat.le_of_ble_eq_true rfl⟩ rfl [] rfl (Nat.le_of_ble_eq_true rfl) dX6_gold_6 ⟨Nat.zero_le _, Nat.zero_le _⟩) (fun b_1 H locs hP hS => ?_) (fun b_1 H locs hP hS => ?_)
  · skip
    have b_1 := (in_iff 101 (by decide) (by decide)).mp b_1
    obtain ⟨jx, hjx, rfl⟩ := b_1
    refine lv_if_ne (tgt := 18) C.1.1 C.1.2.1 dX6_gold_9 (by decide) (fun _ => ?_) (fun c_2 => absurd c_2 (by decide))
    refine lv_aload_n C.1.1 C.1.2.1 dX6_gold_18 rfl (lv_at hl 0 rfl) ?_
    refine r_get C hP 53 6 (Nat.lt_of_lt_of_le (by decide) hn) rfl (by decide) rfl hi6 0 (by decide) (List.mem_of_getElem? (i := 2) rfl) rfl (val := .ref (gA g 54)) rfl dX6_gold_19 ?_
    refine lv_aload_n C.1.1 C.1.2.1 dX6_gold_22 rfl (lv_at hl 0 rfl) ?_
    refine r_get C hP 53 6 (Nat.lt_of_lt_of_le (by decide) hn) rfl (by decide) rfl hi6 2 (by decide) (List.mem_of_getElem? (i := 3) rfl) rfl (val := .ref (gA g 56)) rfl dX6_gold_23 ?_
    refine a_G hS (run_S C hP hS hl.1 [.ref (gA g 54), .ref (gA g 56)] (kX6_copies l g n v 54 56 (by decide) (by decide) (by decide)) gX6_gold_X6_copies hdX6_copies rfl ⟨rfl, rfl⟩ ⟨Nat.le_of_ble_eq_true rfl, Nat.le_of_ble_eq_true rfl⟩ rfl [] rfl (Nat.le_of_ble_eq_true rfl) dX6_gold_26 ⟨Nat.zero_le _, Nat.zero_le _⟩) (fun H locs hP hS => ?_)
    obtain ⟨v_3, hv_3⟩ : ∃ zz, zz = upw v 56 (cpyM (v.1 54) (v.1 56) 83) := ⟨_, rfl⟩
    rw [← hv_3] at hP
    rw [show v_3 = asideM v from hv_3] at hP
    refine lv_aload_n C.1.1 C.1.2.1 dX6_gold_29 rfl (lv_at hl 0 rfl) ?_
    refine lv_iload_n C.1.1 C.1.2.1 dX6_gold_30 rfl (lv_at hl 1 rfl) ?_
    refine lv_bipush (v := 6) C.1.1 C.1.2.1 dX6_gold_31 rfl ?_
    refine a_F hS (run_V C hP hS hl.1 53 6 (Nat.lt_of_lt_of_le (by decide) hn) rfl (by decide) rfl [.int (nI jx), .int 6] (kX6_behind l g n (asideM v) jx 6 (by omega) (by omega) N (okA hM)) gX6_gold_X6_behind rfl hdX6_behind rfl ⟨rfl, rfl⟩ ⟨Nat.le_of_ble_eq_true rfl, Nat.le_of_ble_eq_true rfl⟩ rfl [] rfl (Nat.le_of_ble_eq_true rfl) dX6_gold_33 ⟨Nat.zero_le _, Nat.zero_le _⟩) (fun H locs hP hS => ?_)
    obtain ⟨v_4, hv_4⟩ : ∃ zz, zz = upw (asideM v) 54 (cpyM ((asideM v).1 56) (daysM ((asideM v).1 54) jx) 83) := ⟨_, rfl⟩
    rw [← hv_4] at hP
    rw [show v_4 = asideM v from by rw [hv_4]; exact restoreB (fun j hj => daysM_hi hM hj jx)] at hP
    exact t_F C rfl hP hS (by (rw [goldM]; rw [cif_pos ⟨jx, hjx, rfl⟩]) <;> try simp only [fdM, upw_same, eq_self, if_true, if_false, ite_true, ite_false, ↓reduceIte, tn_nI (show jx < 2 ^ 31 by omega), asideM_54]) (by (rw [goldM]; rw [cif_pos ⟨jx, hjx, rfl⟩]) <;> try simp only [fdM, upw_same, eq_self, if_true, if_false, ite_true, ite_false, ↓reduceIte, tn_nI (show jx < 2 ^ 31 by omega), asideM_54]) dX6_gold_36
  · skip
    have b_1 := fun h => b_1 ((in_iff 101 (by decide) (by decide)).mpr h)
    refine lv_if_ne (tgt := 18) C.1.1 C.1.2.1 dX6_gold_9 (by decide) (fun c_5 => absurd c_5 (by decide)) (fun _ => ?_)
    refine lv_aload_n C.1.1 C.1.2.1 dX6_gold_12 rfl (lv_at hl 0 rfl) ?_
    refine lv_iconst (v := 0) C.1.1 C.1.2.1 dX6_gold_13 rfl ?_
    refine a_F hS (run_V C hP hS hl.1 53 6 (Nat.lt_of_lt_of_le (by decide) hn) rfl (by decide) rfl [.int 0] (kX6_finds l g n v 0 (by decide)) gX6_gold_X6_finds rfl hdX6_finds rfl ⟨rfl, rfl⟩ ⟨Nat.le_of_ble_eq_true rfl, Nat.le_of_ble_eq_true rfl⟩ rfl [] rfl (Nat.le_of_ble_eq_true rfl) dX6_gold_14 ⟨Nat.zero_le _, Nat.zero_le _⟩) (fun H locs hP hS => ?_)
    obtain ⟨v_6, hv_6⟩ : ∃ zz, zz = fnd v 0 := ⟨_, rfl⟩
    rw [← hv_6] at hP
    exact t_F C rfl hP hS (by (rw [goldM]; rw [cif_neg b_1]) <;> try simp only [fdM, upw_same, eq_self, if_true, if_false, ite_true, ite_false, ↓reduceIte, hv_6, asideM_54]) (by (rw [goldM]; rw [cif_neg b_1]) <;> try simp only [fdM, upw_same, eq_self, if_true, if_false, ite_true, ite_false, ↓reduceIte, hv_6, asideM_54]) dX6_gold_17

abbrev rmX6_firstOf : Room := { frames := 4, cells := 0, slots := 0, locals := 90 }
set_option maxHeartbeats 4000000 in
set_option maxRecDepth 100000 in
theorem kX6_firstOf (l : Launch) (g : GG) (n : Nat) (v : SV) (j : Nat) (a b : Int32) (hj : j < 83) (N : Nat) (hM : okM (v.1 54) N) : Met l yX6_firstOf wsX6_firstOf rmX6_firstOf (PW g n v [.ref (gA g 53), .int (nI j), .int a, .int b]) (QF g n ((firstM v j a b).1) ((firstM v j a b).2)) 0 0 (wA g n) := by
  refine Met.begin RX6 rfl (by decide) rfl (Nat.le_of_ble_eq_true rfl) ?_
  intro p e s m args below meth c ls ha C hP hS hl
  have hn : 64 ≤ n := C.2.1.1.2.1
  have hi6 : ∀ w ∈ u_ws RX6 TX6 17, w ∈ wsX6_firstOf := by decide +kernel
  have hl : lv_has ls 6 [(0, .ref (gA g 53)), (1, .int (nI j)), (2, .int a), (3, .int b)] := hl
  have h8 := hM.1
  refine lv_aload_n C.1.1 C.1.2.1 dX6_firstOf_0 rfl (lv_at hl 0 rfl) ?_
  refine r_get C hP 53 6 (Nat.lt_of_lt_of_le (by decide) hn) rfl (by decide) rfl hi6 0 (by decide) (List.mem_of_getElem? (i := 1) rfl) rfl (val := .ref (gA g 54)) rfl dX6_firstOf_1 ?_
  refine lv_aload_n C.1.1 C.1.2.1 dX6_firstOf_4 rfl (lv_at hl 0 rfl) ?_
  refine r_get C hP 53 6 (Nat.lt_of_lt_of_le (by decide) hn) rfl (by decide) rfl hi6 2 (by decide) (List.mem_of_getElem? (i := 2) rfl) rfl (val := .ref (gA g 56)) rfl dX6_firstOf_5 ?_
  refine a_G hS (run_S C hP hS hl.1 [.ref (gA g 54), .ref (gA g 56)] (kX6_copies l g n v 54 56 (by decide) (by decide) (by decide)) gX6_firstOf_X6_copies hdX6_copies rfl ⟨rfl, rfl⟩ ⟨Nat.le_of_ble_eq_true rfl, Nat.le_of_ble_eq_true rfl⟩ rfl [] rfl (Nat.le_of_ble_eq_true rfl) dX6_firstOf_8 ⟨Nat.zero_le _, Nat.zero_le _⟩) (fun H locs hP hS => ?_)
  obtain ⟨v_1, hv_1⟩ : ∃ zz, zz = upw v 56 (cpyM (v.1 54) (v.1 56) 83) := ⟨_, rfl⟩
  rw [← hv_1] at hP
  rw [show v_1 = asideM v from hv_1] at hP
  refine lv_iconst (v := 0) C.1.1 C.1.2.1 dX6_firstOf_11 rfl ?_
  refine lv_istore (lv' := [(4, .int 0), (0, .ref (gA g 53)), (1, .int (nI j)), (2, .int a), (3, .int b)]) C.1.1 C.1.2.1 dX6_firstOf_12 hl (by decide) rfl (fun ls hl => ?_)
  have lp_14 : ∀ (k_14 i : Nat), i ≤ 200 → 200 + 1 ≤ i + k_14 → ∀ (H : Heap) (locs : List Loc) (ls : Array Slot), (∀ t, t < i → ¬ inP (daysM (v.1 54) t j) a b) → va_P g.1 vwCl (wl g n (upw (asideM v) 54 (daysM (v.1 54) i))) H → va_S (wA g n) s.heap H locs → lv_has ls 6 [(0, .ref (gA g 53)), (1, .int (nI j)), (2, .int a), (3, .int b), (4, .int (nI i))] → W p l e rmX6_firstOf s m args below meth c H locs 0 0 (MQ below (QF g n ((firstM v j a b).1) ((firstM v j a b).2)) args s 0 0 (wA g n)) (F0 m 14 ls []) := by
    clear hP hS hl
    intro k_14
    induction k_14 with
    | zero => exact fun i h1 h2 => absurd h2 (by omega)
    | succ k_14 ih_14 =>
      intro i hi_14 hk_14 H locs ls hno hP hS hl
      refine lv_iload C.1.1 C.1.2.1 dX6_firstOf_14 (lv_at hl 4 rfl) ?_
      refine lv_sipush (v := 200) C.1.1 C.1.2.1 dX6_firstOf_16 rfl ?_
      refine lv_icmp_ge (tgt := 49) C.1.1 C.1.2.1 dX6_firstOf_19 (by decide) (fun c_2 => ?_) (fun c_2 => ?_)
      · rw [show (200 ≤ nI i) = (200 ≤ i) from propext (nI_leI (a := 200) (b := i) (by omega) (by omega))] at c_2
        refine lv_aload_n C.1.1 C.1.2.1 dX6_firstOf_49 rfl (lv_at hl 0 rfl) ?_
        refine r_get C hP 53 6 (Nat.lt_of_lt_of_le (by decide) hn) rfl (by decide) rfl hi6 0 (by decide) (List.mem_of_getElem? (i := 1) rfl) rfl (val := .ref (gA g 54)) rfl dX6_firstOf_50 ?_
        refine lv_iload_n C.1.1 C.1.2.1 dX6_firstOf_53 rfl (lv_at hl 1 rfl) ?_
        refine r_iald C hP 54 (Nat.lt_of_lt_of_le (by decide) hn) rfl j rfl (N := 83) rfl (by decide) (by omega) dX6_firstOf_54 ?_
        refine lv_topE (daysM (v.1 54) i j) (by rw [upw_same]) ?_
        refine lv_i2l (v := (daysM (v.1 54) i j).toInt64) C.1.1 C.1.2.1 dX6_firstOf_55 rfl ?_
        refine lv_iload_n C.1.1 C.1.2.1 dX6_firstOf_56 rfl (lv_at hl 2 rfl) ?_
        refine lv_i2l (v := a.toInt64) C.1.1 C.1.2.1 dX6_firstOf_57 rfl ?_
        refine lv_iload_n C.1.1 C.1.2.1 dX6_firstOf_58 rfl (lv_at hl 3 rfl) ?_
        refine lv_i2l (v := b.toInt64) C.1.1 C.1.2.1 dX6_firstOf_59 rfl ?_
        refine a_B hS (run_S C hP hS hl.1 [.long ((daysM (v.1 54) i j).toInt64), .long a.toInt64, .long b.toInt64] (kX6_in l g n (upw (asideM v) 54 (daysM (v.1 54) i)) ((daysM (v.1 54) i j).toInt64) a.toInt64 b.toInt64) gX6_firstOf_X6_in hdX6_in rfl ⟨rfl, rfl⟩ ⟨Nat.le_of_ble_eq_true rfl, Nat.le_of_ble_eq_true rfl⟩ rfl [] rfl (Nat.le_of_ble_eq_true rfl) dX6_firstOf_60 ⟨Nat.zero_le _, Nat.zero_le _⟩) (fun b_3 H locs hP hS => ?_) (fun b_3 H locs hP hS => ?_)
        · skip
          refine lv_istore (lv' := [(5, .int 1), (0, .ref (gA g 53)), (1, .int (nI j)), (2, .int a), (3, .int b), (4, .int (nI i))]) C.1.1 C.1.2.1 dX6_firstOf_63 hl (by decide) rfl (fun ls hl => ?_)
          refine lv_aload_n C.1.1 C.1.2.1 dX6_firstOf_65 rfl (lv_at hl 1 rfl) ?_
          refine r_get C hP 53 6 (Nat.lt_of_lt_of_le (by decide) hn) rfl (by decide) rfl hi6 2 (by decide) (List.mem_of_getElem? (i := 2) rfl) rfl (val := .ref (gA g 56)) rfl dX6_firstOf_66 ?_
          refine lv_aload_n C.1.1 C.1.2.1 dX6_firstOf_69 rfl (lv_at hl 1 rfl) ?_
          refine r_get C hP 53 6 (Nat.lt_of_lt_of_le (by decide) hn) rfl (by decide) rfl hi6 0 (by decide) (List.mem_of_getElem? (i := 1) rfl) rfl (val := .ref (gA g 54)) rfl dX6_firstOf_70 ?_
          refine a_G hS (run_S C hP hS hl.1 [.ref (gA g 56), .ref (gA g 54)] (kX6_copies l g n (upw (asideM v) 54 (daysM (v.1 54) i)) 56 54 (by decide) (by decide) (by decide)) gX6_firstOf_X6_copies hdX6_copies rfl ⟨rfl, rfl⟩ ⟨Nat.le_of_ble_eq_true rfl, Nat.le_of_ble_eq_true rfl⟩ rfl [] rfl (Nat.le_of_ble_eq_true rfl) dX6_firstOf_73 ⟨Nat.zero_le _, Nat.zero_le _⟩) (fun H locs hP hS => ?_)
          obtain ⟨v_4, hv_4⟩ : ∃ zz, zz = upw (upw (asideM v) 54 (daysM (v.1 54) i)) 54 (cpyM ((upw (asideM v) 54 (daysM (v.1 54) i)).1 56) ((upw (asideM v) 54 (daysM (v.1 54) i)).1 54) 83) := ⟨_, rfl⟩
          rw [← hv_4] at hP
          rw [show v_4 = asideM v from by rw [hv_4]; exact restoreM (fun j hj => daysM_hi hM hj i)] at hP
          refine lv_iload C.1.1 C.1.2.1 dX6_firstOf_76 (lv_at hl 0 rfl) ?_
          refine lv_if_eq (tgt := 86) C.1.1 C.1.2.1 dX6_firstOf_78 (by decide) (fun c_5 => absurd c_5 (by decide)) (fun _ => ?_)
          refine lv_iload C.1.1 C.1.2.1 dX6_firstOf_81 (lv_at hl 5 rfl) ?_
          refine lv_goto (tgt := 91) C.1.1 C.1.2.1 dX6_firstOf_83 (by decide) ?_
          exact t_F C rfl hP hS (by rw [firstM_yes hno b_3 (by omega)]) (by rw [firstM_yes hno b_3 (by omega)]) dX6_firstOf_91
        · skip
          refine lv_istore (lv' := [(5, .int 0), (0, .ref (gA g 53)), (1, .int (nI j)), (2, .int a), (3, .int b), (4, .int (nI i))]) C.1.1 C.1.2.1 dX6_firstOf_63 hl (by decide) rfl (fun ls hl => ?_)
          refine lv_aload_n C.1.1 C.1.2.1 dX6_firstOf_65 rfl (lv_at hl 1 rfl) ?_
          refine r_get C hP 53 6 (Nat.lt_of_lt_of_le (by decide) hn) rfl (by decide) rfl hi6 2 (by decide) (List.mem_of_getElem? (i := 2) rfl) rfl (val := .ref (gA g 56)) rfl dX6_firstOf_66 ?_
          refine lv_aload_n C.1.1 C.1.2.1 dX6_firstOf_69 rfl (lv_at hl 1 rfl) ?_
          refine r_get C hP 53 6 (Nat.lt_of_lt_of_le (by decide) hn) rfl (by decide) rfl hi6 0 (by decide) (List.mem_of_getElem? (i := 1) rfl) rfl (val := .ref (gA g 54)) rfl dX6_firstOf_70 ?_
          refine a_G hS (run_S C hP hS hl.1 [.ref (gA g 56), .ref (gA g 54)] (kX6_copies l g n (upw (asideM v) 54 (daysM (v.1 54) i)) 56 54 (by decide) (by decide) (by decide)) gX6_firstOf_X6_copies hdX6_copies rfl ⟨rfl, rfl⟩ ⟨Nat.le_of_ble_eq_true rfl, Nat.le_of_ble_eq_true rfl⟩ rfl [] rfl (Nat.le_of_ble_eq_true rfl) dX6_firstOf_73 ⟨Nat.zero_le _, Nat.zero_le _⟩) (fun H locs hP hS => ?_)
          obtain ⟨v_6, hv_6⟩ : ∃ zz, zz = upw (upw (asideM v) 54 (daysM (v.1 54) i)) 54 (cpyM ((upw (asideM v) 54 (daysM (v.1 54) i)).1 56) ((upw (asideM v) 54 (daysM (v.1 54) i)).1 54) 83) := ⟨_, rfl⟩
          rw [← hv_6] at hP
          rw [show v_6 = asideM v from by rw [hv_6]; exact restoreM (fun j hj => daysM_hi hM hj i)] at hP
          refine lv_iload C.1.1 C.1.2.1 dX6_firstOf_76 (lv_at hl 0 rfl) ?_
          refine lv_if_eq (tgt := 86) C.1.1 C.1.2.1 dX6_firstOf_78 (by decide) (fun _ => ?_) (fun c_7 => absurd c_7 (by decide))
          refine lv_aload_n C.1.1 C.1.2.1 dX6_firstOf_86 rfl (lv_at hl 1 rfl) ?_
          refine lv_iconst (v := 3) C.1.1 C.1.2.1 dX6_firstOf_87 rfl ?_
          refine a_F hS (run_V C hP hS hl.1 53 6 (Nat.lt_of_lt_of_le (by decide) hn) rfl (by decide) rfl [.int 3] (kX6_finds l g n (asideM v) 3 (by decide)) gX6_firstOf_X6_finds rfl hdX6_finds rfl ⟨rfl, rfl⟩ ⟨Nat.le_of_ble_eq_true rfl, Nat.le_of_ble_eq_true rfl⟩ rfl [] rfl (Nat.le_of_ble_eq_true rfl) dX6_firstOf_88 ⟨Nat.zero_le _, Nat.zero_le _⟩) (fun H locs hP hS => ?_)
          obtain ⟨v_8, hv_8⟩ : ∃ zz, zz = fnd (asideM v) 3 := ⟨_, rfl⟩
          rw [← hv_8] at hP
          exact t_F C rfl hP hS (by rw [firstM_no (fun t ht => if h9 : t < i then hno t h9 else by rw [show t = i by omega]; exact b_3)]; rfl) (by rw [firstM_no (fun t ht => if h9 : t < i then hno t h9 else by rw [show t = i by omega]; exact b_3), hv_8]; rfl) dX6_firstOf_91
      · rw [show (200 ≤ nI i) = (200 ≤ i) from propext (nI_leI (a := 200) (b := i) (by omega) (by omega))] at c_2
        refine lv_aload_n C.1.1 C.1.2.1 dX6_firstOf_22 rfl (lv_at hl 0 rfl) ?_
        refine r_get C hP 53 6 (Nat.lt_of_lt_of_le (by decide) hn) rfl (by decide) rfl hi6 0 (by decide) (List.mem_of_getElem? (i := 1) rfl) rfl (val := .ref (gA g 54)) rfl dX6_firstOf_23 ?_
        refine lv_iload_n C.1.1 C.1.2.1 dX6_firstOf_26 rfl (lv_at hl 1 rfl) ?_
        refine r_iald C hP 54 (Nat.lt_of_lt_of_le (by decide) hn) rfl j rfl (N := 83) rfl (by decide) (by omega) dX6_firstOf_27 ?_
        refine lv_topE (daysM (v.1 54) i j) (by rw [upw_same]) ?_
        refine lv_i2l (v := (daysM (v.1 54) i j).toInt64) C.1.1 C.1.2.1 dX6_firstOf_28 rfl ?_
        refine lv_iload_n C.1.1 C.1.2.1 dX6_firstOf_29 rfl (lv_at hl 2 rfl) ?_
        refine lv_i2l (v := a.toInt64) C.1.1 C.1.2.1 dX6_firstOf_30 rfl ?_
        refine lv_iload_n C.1.1 C.1.2.1 dX6_firstOf_31 rfl (lv_at hl 3 rfl) ?_
        refine lv_i2l (v := b.toInt64) C.1.1 C.1.2.1 dX6_firstOf_32 rfl ?_
        refine a_B hS (run_S C hP hS hl.1 [.long ((daysM (v.1 54) i j).toInt64), .long a.toInt64, .long b.toInt64] (kX6_in l g n (upw (asideM v) 54 (daysM (v.1 54) i)) ((daysM (v.1 54) i j).toInt64) a.toInt64 b.toInt64) gX6_firstOf_X6_in hdX6_in rfl ⟨rfl, rfl⟩ ⟨Nat.le_of_ble_eq_true rfl, Nat.le_of_ble_eq_true rfl⟩ rfl [] rfl (Nat.le_of_ble_eq_true rfl) dX6_firstOf_33 ⟨Nat.zero_le _, Nat.zero_le _⟩) (fun b_9 H locs hP hS => ?_) (fun b_9 H locs hP hS => ?_)
        · skip
          refine lv_if_ne (tgt := 49) C.1.1 C.1.2.1 dX6_firstOf_36 (by decide) (fun _ => ?_) (fun c_10 => absurd c_10 (by decide))
          refine lv_aload_n C.1.1 C.1.2.1 dX6_firstOf_49 rfl (lv_at hl 0 rfl) ?_
          refine r_get C hP 53 6 (Nat.lt_of_lt_of_le (by decide) hn) rfl (by decide) rfl hi6 0 (by decide) (List.mem_of_getElem? (i := 1) rfl) rfl (val := .ref (gA g 54)) rfl dX6_firstOf_50 ?_
          refine lv_iload_n C.1.1 C.1.2.1 dX6_firstOf_53 rfl (lv_at hl 1 rfl) ?_
          refine r_iald C hP 54 (Nat.lt_of_lt_of_le (by decide) hn) rfl j rfl (N := 83) rfl (by decide) (by omega) dX6_firstOf_54 ?_
          refine lv_topE (daysM (v.1 54) i j) (by rw [upw_same]) ?_
          refine lv_i2l (v := (daysM (v.1 54) i j).toInt64) C.1.1 C.1.2.1 dX6_firstOf_55 rfl ?_
          refine lv_iload_n C.1.1 C.1.2.1 dX6_firstOf_56 rfl (lv_at hl 2 rfl) ?_
          refine lv_i2l (v := a.toInt64) C.1.1 C.1.2.1 dX6_firstOf_57 rfl ?_
          refine lv_iload_n C.1.1 C.1.2.1 dX6_firstOf_58 rfl (lv_at hl 3 rfl) ?_
          refine lv_i2l (v := b.toInt64) C.1.1 C.1.2.1 dX6_firstOf_59 rfl ?_
          refine a_B hS (run_S C hP hS hl.1 [.long ((daysM (v.1 54) i j).toInt64), .long a.toInt64, .long b.toInt64] (kX6_in l g n (upw (asideM v) 54 (daysM (v.1 54) i)) ((daysM (v.1 54) i j).toInt64) a.toInt64 b.toInt64) gX6_firstOf_X6_in hdX6_in rfl ⟨rfl, rfl⟩ ⟨Nat.le_of_ble_eq_true rfl, Nat.le_of_ble_eq_true rfl⟩ rfl [] rfl (Nat.le_of_ble_eq_true rfl) dX6_firstOf_60 ⟨Nat.zero_le _, Nat.zero_le _⟩) (fun b_11 H locs hP hS => ?_) (fun b_11 H locs hP hS => ?_)
          · skip
            refine lv_istore (lv' := [(5, .int 1), (0, .ref (gA g 53)), (1, .int (nI j)), (2, .int a), (3, .int b), (4, .int (nI i))]) C.1.1 C.1.2.1 dX6_firstOf_63 hl (by decide) rfl (fun ls hl => ?_)
            refine lv_aload_n C.1.1 C.1.2.1 dX6_firstOf_65 rfl (lv_at hl 1 rfl) ?_
            refine r_get C hP 53 6 (Nat.lt_of_lt_of_le (by decide) hn) rfl (by decide) rfl hi6 2 (by decide) (List.mem_of_getElem? (i := 2) rfl) rfl (val := .ref (gA g 56)) rfl dX6_firstOf_66 ?_
            refine lv_aload_n C.1.1 C.1.2.1 dX6_firstOf_69 rfl (lv_at hl 1 rfl) ?_
            refine r_get C hP 53 6 (Nat.lt_of_lt_of_le (by decide) hn) rfl (by decide) rfl hi6 0 (by decide) (List.mem_of_getElem? (i := 1) rfl) rfl (val := .ref (gA g 54)) rfl dX6_firstOf_70 ?_
            refine a_G hS (run_S C hP hS hl.1 [.ref (gA g 56), .ref (gA g 54)] (kX6_copies l g n (upw (asideM v) 54 (daysM (v.1 54) i)) 56 54 (by decide) (by decide) (by decide)) gX6_firstOf_X6_copies hdX6_copies rfl ⟨rfl, rfl⟩ ⟨Nat.le_of_ble_eq_true rfl, Nat.le_of_ble_eq_true rfl⟩ rfl [] rfl (Nat.le_of_ble_eq_true rfl) dX6_firstOf_73 ⟨Nat.zero_le _, Nat.zero_le _⟩) (fun H locs hP hS => ?_)
            obtain ⟨v_12, hv_12⟩ : ∃ zz, zz = upw (upw (asideM v) 54 (daysM (v.1 54) i)) 54 (cpyM ((upw (asideM v) 54 (daysM (v.1 54) i)).1 56) ((upw (asideM v) 54 (daysM (v.1 54) i)).1 54) 83) := ⟨_, rfl⟩
            rw [← hv_12] at hP
            rw [show v_12 = asideM v from by rw [hv_12]; exact restoreM (fun j hj => daysM_hi hM hj i)] at hP
            refine lv_iload C.1.1 C.1.2.1 dX6_firstOf_76 (lv_at hl 0 rfl) ?_
            refine lv_if_eq (tgt := 86) C.1.1 C.1.2.1 dX6_firstOf_78 (by decide) (fun c_13 => absurd c_13 (by decide)) (fun _ => ?_)
            refine lv_iload C.1.1 C.1.2.1 dX6_firstOf_81 (lv_at hl 5 rfl) ?_
            refine lv_goto (tgt := 91) C.1.1 C.1.2.1 dX6_firstOf_83 (by decide) ?_
            exact t_F C rfl hP hS (by rw [firstM_yes hno b_11 (by omega)]) (by rw [firstM_yes hno b_11 (by omega)]) dX6_firstOf_91
          · skip
            refine lv_istore (lv' := [(5, .int 0), (0, .ref (gA g 53)), (1, .int (nI j)), (2, .int a), (3, .int b), (4, .int (nI i))]) C.1.1 C.1.2.1 dX6_firstOf_63 hl (by decide) rfl (fun ls hl => ?_)
            refine lv_aload_n C.1.1 C.1.2.1 dX6_firstOf_65 rfl (lv_at hl 1 rfl) ?_
            refine r_get C hP 53 6 (Nat.lt_of_lt_of_le (by decide) hn) rfl (by decide) rfl hi6 2 (by decide) (List.mem_of_getElem? (i := 2) rfl) rfl (val := .ref (gA g 56)) rfl dX6_firstOf_66 ?_
            refine lv_aload_n C.1.1 C.1.2.1 dX6_firstOf_69 rfl (lv_at hl 1 rfl) ?_
            refine r_get C hP 53 6 (Nat.lt_of_lt_of_le (by decide) hn) rfl (by decide) rfl hi6 0 (by decide) (List.mem_of_getElem? (i := 1) rfl) rfl (val := .ref (gA g 54)) rfl dX6_firstOf_70 ?_
            refine a_G hS (run_S C hP hS hl.1 [.ref (gA g 56), .ref (gA g 54)] (kX6_copies l g n (upw (asideM v) 54 (daysM (v.1 54) i)) 56 54 (by decide) (by decide) (by decide)) gX6_firstOf_X6_copies hdX6_copies rfl ⟨rfl, rfl⟩ ⟨Nat.le_of_ble_eq_true rfl, Nat.le_of_ble_eq_true rfl⟩ rfl [] rfl (Nat.le_of_ble_eq_true rfl) dX6_firstOf_73 ⟨Nat.zero_le _, Nat.zero_le _⟩) (fun H locs hP hS => ?_)
            obtain ⟨v_14, hv_14⟩ : ∃ zz, zz = upw (upw (asideM v) 54 (daysM (v.1 54) i)) 54 (cpyM ((upw (asideM v) 54 (daysM (v.1 54) i)).1 56) ((upw (asideM v) 54 (daysM (v.1 54) i)).1 54) 83) := ⟨_, rfl⟩
            rw [← hv_14] at hP
            rw [show v_14 = asideM v from by rw [hv_14]; exact restoreM (fun j hj => daysM_hi hM hj i)] at hP
            refine lv_iload C.1.1 C.1.2.1 dX6_firstOf_76 (lv_at hl 0 rfl) ?_
            refine lv_if_eq (tgt := 86) C.1.1 C.1.2.1 dX6_firstOf_78 (by decide) (fun _ => ?_) (fun c_15 => absurd c_15 (by decide))
            refine lv_aload_n C.1.1 C.1.2.1 dX6_firstOf_86 rfl (lv_at hl 1 rfl) ?_
            refine lv_iconst (v := 3) C.1.1 C.1.2.1 dX6_firstOf_87 rfl ?_
            refine a_F hS (run_V C hP hS hl.1 53 6 (Nat.lt_of_lt_of_le (by decide) hn) rfl (by decide) rfl [.int 3] (kX6_finds l g n (asideM v) 3 (by decide)) gX6_firstOf_X6_finds rfl hdX6_finds rfl ⟨rfl, rfl⟩ ⟨Nat.le_of_ble_eq_true rfl, Nat.le_of_ble_eq_true rfl⟩ rfl [] rfl (Nat.le_of_ble_eq_true rfl) dX6_firstOf_88 ⟨Nat.zero_le _, Nat.zero_le _⟩) (fun H locs hP hS => ?_)
            obtain ⟨v_16, hv_16⟩ : ∃ zz, zz = fnd (asideM v) 3 := ⟨_, rfl⟩
            rw [← hv_16] at hP
            exact t_F C rfl hP hS (absurd b_9 b_11) (absurd b_9 b_11) dX6_firstOf_91
        · skip
          refine lv_if_ne (tgt := 49) C.1.1 C.1.2.1 dX6_firstOf_36 (by decide) (fun c_17 => absurd c_17 (by decide)) (fun _ => ?_)
          refine lv_aload_n C.1.1 C.1.2.1 dX6_firstOf_39 rfl (lv_at hl 0 rfl) ?_
          refine a_G hS (run_V C hP hS hl.1 53 6 (Nat.lt_of_lt_of_le (by decide) hn) rfl (by decide) rfl [] (kX6_dayGoes l g n (upw (asideM v) 54 (daysM (v.1 54) i)) N (by rw [upw_same]; exact okM_days hM i)) gX6_firstOf_X6_dayGoes rfl hdX6_dayGoes rfl ⟨rfl, rfl⟩ ⟨Nat.le_of_ble_eq_true rfl, Nat.le_of_ble_eq_true rfl⟩ rfl [] rfl (Nat.le_of_ble_eq_true rfl) dX6_firstOf_40 ⟨Nat.zero_le _, Nat.zero_le _⟩) (fun H locs hP hS => ?_)
          obtain ⟨v_18, hv_18⟩ : ∃ zz, zz = upw (upw (asideM v) 54 (daysM (v.1 54) i)) 54 (dayM ((upw (asideM v) 54 (daysM (v.1 54) i)).1 54)) := ⟨_, rfl⟩
          rw [← hv_18] at hP
          refine lv_iinc (v := nI (i + 1)) (lv' := [(4, .int (nI (i + 1))), (0, .ref (gA g 53)), (1, .int (nI j)), (2, .int a), (3, .int b)]) C.1.1 C.1.2.1 dX6_firstOf_43 hl (k := 4) rfl (nI_1 i) (by decide) rfl (fun ls hl => ?_)
          refine lv_goto (tgt := 14) C.1.1 C.1.2.1 dX6_firstOf_46 (by decide) ?_
          exact ih_14 (i + 1) (by omega) (by omega) _ _ _ (fun t ht => if h9 : t < i then hno t h9 else by rw [show t = i by omega]; exact b_9) (by rw [hv_18, upw_same, upw_upw] at hP; exact hP) hS (lv_sub hl [1, 2, 3, 4, 0] rfl)
  exact lp_14 (200 + 1) 0 (Nat.zero_le _) (by omega) _ _ _ (fun t ht => absurd ht (Nat.not_lt_zero t)) (by rw [show daysM (v.1 54) 0 = (asideM v).1 54 from (asideM_54 v).symm, upw_self]; exact hP) hS (lv_sub hl [1, 2, 3, 4, 0] rfl)

abbrev rmX6_stands : Room := { frames := 5, cells := 0, slots := 0, locals := 115 }
set_option maxHeartbeats 4000000 in
set_option maxRecDepth 100000 in
theorem kX6_stands (l : Launch) (g : GG) (n : Nat) (v : SV) (x y : Int32) (N : Nat) (hM : okM (v.1 54) N) : Met l yX6_stands wsX6_stands rmX6_stands (PW g n v [.ref (gA g 53), .int x, .int y]) (QF g n ((standsM v x y).1) ((standsM v x y).2)) 0 0 (wA g n) := by
  refine Met.begin RX6 rfl (by decide) rfl (Nat.le_of_ble_eq_true rfl) ?_
  intro p e s m args below meth c ls ha C hP hS hl
  have hn : 64 ≤ n := C.2.1.1.2.1
  have hi6 : ∀ w ∈ u_ws RX6 TX6 17, w ∈ wsX6_stands := by decide +kernel
  have hl : lv_has ls 3 [(0, .ref (gA g 53)), (1, .int x), (2, .int y)] := hl
  have h8 := hM.1
  refine lv_aload_n C.1.1 C.1.2.1 dX6_stands_0 rfl (lv_at hl 0 rfl) ?_
  refine lv_iload_n C.1.1 C.1.2.1 dX6_stands_1 rfl (lv_at hl 1 rfl) ?_
  refine a_B hS (run_V C hP hS hl.1 53 6 (Nat.lt_of_lt_of_le (by decide) hn) rfl (by decide) rfl [.int x] (kX6_isResident l g n v x N hM) gX6_stands_X6_isResident rfl hdX6_isResident rfl ⟨rfl, rfl⟩ ⟨Nat.le_of_ble_eq_true rfl, Nat.le_of_ble_eq_true rfl⟩ rfl [] rfl (Nat.le_of_ble_eq_true rfl) dX6_stands_2 ⟨Nat.zero_le _, Nat.zero_le _⟩) (fun b_1 H locs hP hS => ?_) (fun b_1 H locs hP hS => ?_)
  · skip
    obtain ⟨jx, hjx, rfl⟩ := b_1
    refine lv_if_eq (tgt := 35) C.1.1 C.1.2.1 dX6_stands_5 (by decide) (fun c_2 => absurd c_2 (by decide)) (fun _ => ?_)
    refine lv_iload_n C.1.1 C.1.2.1 dX6_stands_8 rfl (lv_at hl 2 rfl) ?_
    refine lv_i2l (v := y.toInt64) C.1.1 C.1.2.1 dX6_stands_9 rfl ?_
    refine lv_lconst (v := 0) C.1.1 C.1.2.1 dX6_stands_10 rfl ?_
    refine lv_ldc2 (v := 9999) C.1.1 C.1.2.1 C.1.2.2.2.1 (C.1.2.2.2.2 _ (List.mem_of_getElem? (i := 1) rfl)) dX6_stands_11 ?_
    refine a_B hS (run_S C hP hS hl.1 [.long y.toInt64, .long 0, .long 9999] (kX6_in l g n v y.toInt64 0 9999) gX6_stands_X6_in hdX6_in rfl ⟨rfl, rfl⟩ ⟨Nat.le_of_ble_eq_true rfl, Nat.le_of_ble_eq_true rfl⟩ rfl [] rfl (Nat.le_of_ble_eq_true rfl) dX6_stands_14 ⟨Nat.zero_le _, Nat.zero_le _⟩) (fun b_3 H locs hP hS => ?_) (fun b_3 H locs hP hS => ?_)
    · skip
      have b_3 := (in_iff 10000 (by decide) (by decide)).mp b_3
      obtain ⟨jy, hjy, rfl⟩ := b_3
      refine lv_if_eq (tgt := 35) C.1.1 C.1.2.1 dX6_stands_17 (by decide) (fun c_4 => absurd c_4 (by decide)) (fun _ => ?_)
      refine lv_aload_n C.1.1 C.1.2.1 dX6_stands_20 rfl (lv_at hl 0 rfl) ?_
      refine lv_bipush (v := 57) C.1.1 C.1.2.1 dX6_stands_21 rfl ?_
      refine lv_iload_n C.1.1 C.1.2.1 dX6_stands_23 rfl (lv_at hl 1 rfl) ?_
      refine lv_iadd C.1.1 C.1.2.1 dX6_stands_24 ?_
      refine lv_topE (nI (57 + jx)) (nI_add 57 jx) ?_
      refine lv_iload_n C.1.1 C.1.2.1 dX6_stands_25 rfl (lv_at hl 2 rfl) ?_
      refine lv_sipush (v := 9999) C.1.1 C.1.2.1 dX6_stands_26 rfl ?_
      refine a_F hS (run_V C hP hS hl.1 53 6 (Nat.lt_of_lt_of_le (by decide) hn) rfl (by decide) rfl [.int (nI (57 + jx)), .int (nI jy), .int 9999] (kX6_firstOf l g n v (57 + jx) (nI jy) 9999 (by omega) N hM) gX6_stands_X6_firstOf rfl hdX6_firstOf rfl ⟨rfl, rfl⟩ ⟨Nat.le_of_ble_eq_true rfl, Nat.le_of_ble_eq_true rfl⟩ rfl [] rfl (Nat.le_of_ble_eq_true rfl) dX6_stands_29 ⟨Nat.zero_le _, Nat.zero_le _⟩) (fun H locs hP hS => ?_)
      obtain ⟨v_5, hv_5⟩ : ∃ zz, zz = (firstM v (57 + jx) (nI jy) 9999).2 := ⟨_, rfl⟩
      rw [← hv_5] at hP
      refine lv_goto (tgt := 40) C.1.1 C.1.2.1 dX6_stands_32 (by decide) ?_
      exact t_F C rfl hP hS (by (rw [standsM, nM_eq hM]; rw [cif_pos ⟨jx, hjx, rfl⟩]; rw [cif_pos ⟨jy, hjy, rfl⟩]) <;> try simp only [fdM, upw_same, eq_self, if_true, if_false, ite_true, ite_false, ↓reduceIte, tn_nI (show jx < 2 ^ 31 by omega), tn_nI (show jy < 2 ^ 31 by omega), hv_5, nM_eq hM]) (by (rw [standsM, nM_eq hM]; rw [cif_pos ⟨jx, hjx, rfl⟩]; rw [cif_pos ⟨jy, hjy, rfl⟩]) <;> try simp only [fdM, upw_same, eq_self, if_true, if_false, ite_true, ite_false, ↓reduceIte, tn_nI (show jx < 2 ^ 31 by omega), tn_nI (show jy < 2 ^ 31 by omega), hv_5, nM_eq hM]) dX6_stands_40
    · skip
      have b_3 := fun h => b_3 ((in_iff 10000 (by decide) (by decide)).mpr h)
      refine lv_if_eq (tgt := 35) C.1.1 C.1.2.1 dX6_stands_17 (by decide) (fun _ => ?_) (fun c_6 => absurd c_6 (by decide))
      refine lv_aload_n C.1.1 C.1.2.1 dX6_stands_35 rfl (lv_at hl 0 rfl) ?_
      refine lv_iconst (v := 0) C.1.1 C.1.2.1 dX6_stands_36 rfl ?_
      refine a_F hS (run_V C hP hS hl.1 53 6 (Nat.lt_of_lt_of_le (by decide) hn) rfl (by decide) rfl [.int 0] (kX6_finds l g n v 0 (by decide)) gX6_stands_X6_finds rfl hdX6_finds rfl ⟨rfl, rfl⟩ ⟨Nat.le_of_ble_eq_true rfl, Nat.le_of_ble_eq_true rfl⟩ rfl [] rfl (Nat.le_of_ble_eq_true rfl) dX6_stands_37 ⟨Nat.zero_le _, Nat.zero_le _⟩) (fun H locs hP hS => ?_)
      obtain ⟨v_7, hv_7⟩ : ∃ zz, zz = fnd v 0 := ⟨_, rfl⟩
      rw [← hv_7] at hP
      exact t_F C rfl hP hS (by (rw [standsM, nM_eq hM]; rw [cif_pos ⟨jx, hjx, rfl⟩]; (try simp only [tn_nI (show jx < 2 ^ 31 by omega)]); rw [cif_neg b_3]) <;> try simp only [fdM, upw_same, eq_self, if_true, if_false, ite_true, ite_false, ↓reduceIte, tn_nI (show jx < 2 ^ 31 by omega), hv_7, nM_eq hM]) (by (rw [standsM, nM_eq hM]; rw [cif_pos ⟨jx, hjx, rfl⟩]; (try simp only [tn_nI (show jx < 2 ^ 31 by omega)]); rw [cif_neg b_3]) <;> try simp only [fdM, upw_same, eq_self, if_true, if_false, ite_true, ite_false, ↓reduceIte, tn_nI (show jx < 2 ^ 31 by omega), hv_7, nM_eq hM]) dX6_stands_40
  · skip
    refine lv_if_eq (tgt := 35) C.1.1 C.1.2.1 dX6_stands_5 (by decide) (fun _ => ?_) (fun c_8 => absurd c_8 (by decide))
    refine lv_aload_n C.1.1 C.1.2.1 dX6_stands_35 rfl (lv_at hl 0 rfl) ?_
    refine lv_iconst (v := 0) C.1.1 C.1.2.1 dX6_stands_36 rfl ?_
    refine a_F hS (run_V C hP hS hl.1 53 6 (Nat.lt_of_lt_of_le (by decide) hn) rfl (by decide) rfl [.int 0] (kX6_finds l g n v 0 (by decide)) gX6_stands_X6_finds rfl hdX6_finds rfl ⟨rfl, rfl⟩ ⟨Nat.le_of_ble_eq_true rfl, Nat.le_of_ble_eq_true rfl⟩ rfl [] rfl (Nat.le_of_ble_eq_true rfl) dX6_stands_37 ⟨Nat.zero_le _, Nat.zero_le _⟩) (fun H locs hP hS => ?_)
    obtain ⟨v_9, hv_9⟩ : ∃ zz, zz = fnd v 0 := ⟨_, rfl⟩
    rw [← hv_9] at hP
    exact t_F C rfl hP hS (by (rw [standsM, nM_eq hM]; rw [cif_neg b_1]) <;> try simp only [fdM, upw_same, eq_self, if_true, if_false, ite_true, ite_false, ↓reduceIte, hv_9, nM_eq hM]) (by (rw [standsM, nM_eq hM]; rw [cif_neg b_1]) <;> try simp only [fdM, upw_same, eq_self, if_true, if_false, ite_true, ite_false, ↓reduceIte, hv_9, nM_eq hM]) dX6_stands_40

abbrev rmX6_despair : Room := { frames := 5, cells := 0, slots := 0, locals := 115 }
set_option maxHeartbeats 4000000 in
set_option maxRecDepth 100000 in
theorem kX6_despair (l : Launch) (g : GG) (n : Nat) (v : SV) (x y : Int32) (N : Nat) (hM : okM (v.1 54) N) : Met l yX6_despair wsX6_despair rmX6_despair (PW g n v [.ref (gA g 53), .int x, .int y]) (QF g n ((despairM v x y).1) ((despairM v x y).2)) 0 0 (wA g n) := by
  refine Met.begin RX6 rfl (by decide) rfl (Nat.le_of_ble_eq_true rfl) ?_
  intro p e s m args below meth c ls ha C hP hS hl
  have hn : 64 ≤ n := C.2.1.1.2.1
  have hi6 : ∀ w ∈ u_ws RX6 TX6 17, w ∈ wsX6_despair := by decide +kernel
  have hl : lv_has ls 3 [(0, .ref (gA g 53)), (1, .int x), (2, .int y)] := hl
  have h8 := hM.1
  refine lv_aload_n C.1.1 C.1.2.1 dX6_despair_0 rfl (lv_at hl 0 rfl) ?_
  refine lv_iload_n C.1.1 C.1.2.1 dX6_despair_1 rfl (lv_at hl 1 rfl) ?_
  refine a_B hS (run_V C hP hS hl.1 53 6 (Nat.lt_of_lt_of_le (by decide) hn) rfl (by decide) rfl [.int x] (kX6_isResident l g n v x N hM) gX6_despair_X6_isResident rfl hdX6_isResident rfl ⟨rfl, rfl⟩ ⟨Nat.le_of_ble_eq_true rfl, Nat.le_of_ble_eq_true rfl⟩ rfl [] rfl (Nat.le_of_ble_eq_true rfl) dX6_despair_2 ⟨Nat.zero_le _, Nat.zero_le _⟩) (fun b_1 H locs hP hS => ?_) (fun b_1 H locs hP hS => ?_)
  · skip
    obtain ⟨jx, hjx, rfl⟩ := b_1
    refine lv_if_eq (tgt := 33) C.1.1 C.1.2.1 dX6_despair_5 (by decide) (fun c_2 => absurd c_2 (by decide)) (fun _ => ?_)
    refine lv_iload_n C.1.1 C.1.2.1 dX6_despair_8 rfl (lv_at hl 2 rfl) ?_
    refine lv_i2l (v := y.toInt64) C.1.1 C.1.2.1 dX6_despair_9 rfl ?_
    refine lv_lconst (v := 0) C.1.1 C.1.2.1 dX6_despair_10 rfl ?_
    refine lv_ldc2 (v := 99) C.1.1 C.1.2.1 C.1.2.2.2.1 (C.1.2.2.2.2 _ (List.mem_of_getElem? (i := 1) rfl)) dX6_despair_11 ?_
    refine a_B hS (run_S C hP hS hl.1 [.long y.toInt64, .long 0, .long 99] (kX6_in l g n v y.toInt64 0 99) gX6_despair_X6_in hdX6_in rfl ⟨rfl, rfl⟩ ⟨Nat.le_of_ble_eq_true rfl, Nat.le_of_ble_eq_true rfl⟩ rfl [] rfl (Nat.le_of_ble_eq_true rfl) dX6_despair_14 ⟨Nat.zero_le _, Nat.zero_le _⟩) (fun b_3 H locs hP hS => ?_) (fun b_3 H locs hP hS => ?_)
    · skip
      have b_3 := (in_iff 100 (by decide) (by decide)).mp b_3
      obtain ⟨jy, hjy, rfl⟩ := b_3
      refine lv_if_eq (tgt := 33) C.1.1 C.1.2.1 dX6_despair_17 (by decide) (fun c_4 => absurd c_4 (by decide)) (fun _ => ?_)
      refine lv_aload_n C.1.1 C.1.2.1 dX6_despair_20 rfl (lv_at hl 0 rfl) ?_
      refine lv_bipush (v := 49) C.1.1 C.1.2.1 dX6_despair_21 rfl ?_
      refine lv_iload_n C.1.1 C.1.2.1 dX6_despair_23 rfl (lv_at hl 1 rfl) ?_
      refine lv_iadd C.1.1 C.1.2.1 dX6_despair_24 ?_
      refine lv_topE (nI (49 + jx)) (nI_add 49 jx) ?_
      refine lv_iconst (v := 0) C.1.1 C.1.2.1 dX6_despair_25 rfl ?_
      refine lv_iload_n C.1.1 C.1.2.1 dX6_despair_26 rfl (lv_at hl 2 rfl) ?_
      refine a_F hS (run_V C hP hS hl.1 53 6 (Nat.lt_of_lt_of_le (by decide) hn) rfl (by decide) rfl [.int (nI (49 + jx)), .int 0, .int (nI jy)] (kX6_firstOf l g n v (49 + jx) 0 (nI jy) (by omega) N hM) gX6_despair_X6_firstOf rfl hdX6_firstOf rfl ⟨rfl, rfl⟩ ⟨Nat.le_of_ble_eq_true rfl, Nat.le_of_ble_eq_true rfl⟩ rfl [] rfl (Nat.le_of_ble_eq_true rfl) dX6_despair_27 ⟨Nat.zero_le _, Nat.zero_le _⟩) (fun H locs hP hS => ?_)
      obtain ⟨v_5, hv_5⟩ : ∃ zz, zz = (firstM v (49 + jx) 0 (nI jy)).2 := ⟨_, rfl⟩
      rw [← hv_5] at hP
      refine lv_goto (tgt := 38) C.1.1 C.1.2.1 dX6_despair_30 (by decide) ?_
      exact t_F C rfl hP hS (by (rw [despairM, nM_eq hM]; rw [cif_pos ⟨jx, hjx, rfl⟩]; rw [cif_pos ⟨jy, hjy, rfl⟩]) <;> try simp only [fdM, upw_same, eq_self, if_true, if_false, ite_true, ite_false, ↓reduceIte, tn_nI (show jx < 2 ^ 31 by omega), tn_nI (show jy < 2 ^ 31 by omega), hv_5, nM_eq hM]) (by (rw [despairM, nM_eq hM]; rw [cif_pos ⟨jx, hjx, rfl⟩]; rw [cif_pos ⟨jy, hjy, rfl⟩]) <;> try simp only [fdM, upw_same, eq_self, if_true, if_false, ite_true, ite_false, ↓reduceIte, tn_nI (show jx < 2 ^ 31 by omega), tn_nI (show jy < 2 ^ 31 by omega), hv_5, nM_eq hM]) dX6_despair_38
    · skip
      have b_3 := fun h => b_3 ((in_iff 100 (by decide) (by decide)).mpr h)
      refine lv_if_eq (tgt := 33) C.1.1 C.1.2.1 dX6_despair_17 (by decide) (fun _ => ?_) (fun c_6 => absurd c_6 (by decide))
      refine lv_aload_n C.1.1 C.1.2.1 dX6_despair_33 rfl (lv_at hl 0 rfl) ?_
      refine lv_iconst (v := 0) C.1.1 C.1.2.1 dX6_despair_34 rfl ?_
      refine a_F hS (run_V C hP hS hl.1 53 6 (Nat.lt_of_lt_of_le (by decide) hn) rfl (by decide) rfl [.int 0] (kX6_finds l g n v 0 (by decide)) gX6_despair_X6_finds rfl hdX6_finds rfl ⟨rfl, rfl⟩ ⟨Nat.le_of_ble_eq_true rfl, Nat.le_of_ble_eq_true rfl⟩ rfl [] rfl (Nat.le_of_ble_eq_true rfl) dX6_despair_35 ⟨Nat.zero_le _, Nat.zero_le _⟩) (fun H locs hP hS => ?_)
      obtain ⟨v_7, hv_7⟩ : ∃ zz, zz = fnd v 0 := ⟨_, rfl⟩
      rw [← hv_7] at hP
      exact t_F C rfl hP hS (by (rw [despairM, nM_eq hM]; rw [cif_pos ⟨jx, hjx, rfl⟩]; (try simp only [tn_nI (show jx < 2 ^ 31 by omega)]); rw [cif_neg b_3]) <;> try simp only [fdM, upw_same, eq_self, if_true, if_false, ite_true, ite_false, ↓reduceIte, tn_nI (show jx < 2 ^ 31 by omega), hv_7, nM_eq hM]) (by (rw [despairM, nM_eq hM]; rw [cif_pos ⟨jx, hjx, rfl⟩]; (try simp only [tn_nI (show jx < 2 ^ 31 by omega)]); rw [cif_neg b_3]) <;> try simp only [fdM, upw_same, eq_self, if_true, if_false, ite_true, ite_false, ↓reduceIte, tn_nI (show jx < 2 ^ 31 by omega), hv_7, nM_eq hM]) dX6_despair_38
  · skip
    refine lv_if_eq (tgt := 33) C.1.1 C.1.2.1 dX6_despair_5 (by decide) (fun _ => ?_) (fun c_8 => absurd c_8 (by decide))
    refine lv_aload_n C.1.1 C.1.2.1 dX6_despair_33 rfl (lv_at hl 0 rfl) ?_
    refine lv_iconst (v := 0) C.1.1 C.1.2.1 dX6_despair_34 rfl ?_
    refine a_F hS (run_V C hP hS hl.1 53 6 (Nat.lt_of_lt_of_le (by decide) hn) rfl (by decide) rfl [.int 0] (kX6_finds l g n v 0 (by decide)) gX6_despair_X6_finds rfl hdX6_finds rfl ⟨rfl, rfl⟩ ⟨Nat.le_of_ble_eq_true rfl, Nat.le_of_ble_eq_true rfl⟩ rfl [] rfl (Nat.le_of_ble_eq_true rfl) dX6_despair_35 ⟨Nat.zero_le _, Nat.zero_le _⟩) (fun H locs hP hS => ?_)
    obtain ⟨v_9, hv_9⟩ : ∃ zz, zz = fnd v 0 := ⟨_, rfl⟩
    rw [← hv_9] at hP
    exact t_F C rfl hP hS (by (rw [despairM, nM_eq hM]; rw [cif_neg b_1]) <;> try simp only [fdM, upw_same, eq_self, if_true, if_false, ite_true, ite_false, ↓reduceIte, hv_9, nM_eq hM]) (by (rw [despairM, nM_eq hM]; rw [cif_neg b_1]) <;> try simp only [fdM, upw_same, eq_self, if_true, if_false, ite_true, ite_false, ↓reduceIte, hv_9, nM_eq hM]) dX6_despair_38

abbrev rmX6_wants : Room := { frames := 4, cells := 0, slots := 0, locals := 90 }
set_option maxHeartbeats 4000000 in
set_option maxRecDepth 100000 in
theorem kX6_wants (l : Launch) (g : GG) (n : Nat) (v : SV) (x y : Int32) (N : Nat) (hM : okM (v.1 54) N) : Met l yX6_wants wsX6_wants rmX6_wants (PW g n v [.ref (gA g 53), .int x, .int y]) (QF g n ((wantsM v x y).1) ((wantsM v x y).2)) 0 0 (wA g n) := by
  refine Met.begin RX6 rfl (by decide) rfl (Nat.le_of_ble_eq_true rfl) ?_
  intro p e s m args below meth c ls ha C hP hS hl
  have hn : 64 ≤ n := C.2.1.1.2.1
  have hi6 : ∀ w ∈ u_ws RX6 TX6 17, w ∈ wsX6_wants := by decide +kernel
  have hl : lv_has ls 5 [(0, .ref (gA g 53)), (1, .int x), (2, .int y)] := hl
  have h8 := hM.1
  refine lv_aload_n C.1.1 C.1.2.1 dX6_wants_0 rfl (lv_at hl 0 rfl) ?_
  refine lv_iload_n C.1.1 C.1.2.1 dX6_wants_1 rfl (lv_at hl 1 rfl) ?_
  refine a_B hS (run_V C hP hS hl.1 53 6 (Nat.lt_of_lt_of_le (by decide) hn) rfl (by decide) rfl [.int x] (kX6_isResident l g n v x N hM) gX6_wants_X6_isResident rfl hdX6_isResident rfl ⟨rfl, rfl⟩ ⟨Nat.le_of_ble_eq_true rfl, Nat.le_of_ble_eq_true rfl⟩ rfl [] rfl (Nat.le_of_ble_eq_true rfl) dX6_wants_2 ⟨Nat.zero_le _, Nat.zero_le _⟩) (fun b_1 H locs hP hS => ?_) (fun b_1 H locs hP hS => ?_)
  · skip
    obtain ⟨jx, hjx, rfl⟩ := b_1
    refine lv_if_eq (tgt := 15) C.1.1 C.1.2.1 dX6_wants_5 (by decide) (fun c_2 => absurd c_2 (by decide)) (fun _ => ?_)
    refine lv_iload_n C.1.1 C.1.2.1 dX6_wants_8 rfl (lv_at hl 2 rfl) ?_
    refine a_B hS (run_S C hP hS hl.1 [.int y] (kX6_isGood l g n v y) gX6_wants_X6_isGood hdX6_isGood rfl ⟨rfl, rfl⟩ ⟨Nat.le_of_ble_eq_true rfl, Nat.le_of_ble_eq_true rfl⟩ rfl [] rfl (Nat.le_of_ble_eq_true rfl) dX6_wants_9 ⟨Nat.zero_le _, Nat.zero_le _⟩) (fun b_3 H locs hP hS => ?_) (fun b_3 H locs hP hS => ?_)
    · skip
      obtain ⟨jy, hjy, rfl⟩ := b_3
      refine lv_if_ne (tgt := 21) C.1.1 C.1.2.1 dX6_wants_12 (by decide) (fun _ => ?_) (fun c_4 => absurd c_4 (by decide))
      refine lv_aload_n C.1.1 C.1.2.1 dX6_wants_21 rfl (lv_at hl 0 rfl) ?_
      refine r_get C hP 53 6 (Nat.lt_of_lt_of_le (by decide) hn) rfl (by decide) rfl hi6 0 (by decide) (List.mem_of_getElem? (i := 1) rfl) rfl (val := .ref (gA g 54)) rfl dX6_wants_22 ?_
      refine lv_aload_n C.1.1 C.1.2.1 dX6_wants_25 rfl (lv_at hl 0 rfl) ?_
      refine r_get C hP 53 6 (Nat.lt_of_lt_of_le (by decide) hn) rfl (by decide) rfl hi6 2 (by decide) (List.mem_of_getElem? (i := 2) rfl) rfl (val := .ref (gA g 56)) rfl dX6_wants_26 ?_
      refine a_G hS (run_S C hP hS hl.1 [.ref (gA g 54), .ref (gA g 56)] (kX6_copies l g n v 54 56 (by decide) (by decide) (by decide)) gX6_wants_X6_copies hdX6_copies rfl ⟨rfl, rfl⟩ ⟨Nat.le_of_ble_eq_true rfl, Nat.le_of_ble_eq_true rfl⟩ rfl [] rfl (Nat.le_of_ble_eq_true rfl) dX6_wants_29 ⟨Nat.zero_le _, Nat.zero_le _⟩) (fun H locs hP hS => ?_)
      obtain ⟨v_5, hv_5⟩ : ∃ zz, zz = upw v 56 (cpyM (v.1 54) (v.1 56) 83) := ⟨_, rfl⟩
      rw [← hv_5] at hP
      rw [show v_5 = asideM v from hv_5] at hP
      refine lv_iconst (v := 0) C.1.1 C.1.2.1 dX6_wants_32 rfl ?_
      refine lv_istore_n (lv' := [(3, .int 0), (0, .ref (gA g 53)), (1, .int (nI jx)), (2, .int (nI jy))]) C.1.1 C.1.2.1 dX6_wants_33 rfl hl (by decide) rfl (fun ls hl => ?_)
      have lp_34 : ∀ (k_34 i : Nat), i ≤ 200 → 200 + 1 ≤ i + k_34 → ∀ (H : Heap) (locs : List Loc) (ls : Array Slot), (∀ t, t < i → ¬ wantF (rowM (daysM (v.1 54) t) jx) (nI jy)) → va_P g.1 vwCl (wl g n (upw (asideM v) 54 (daysM (v.1 54) i))) H → va_S (wA g n) s.heap H locs → lv_has ls 5 [(0, .ref (gA g 53)), (1, .int (nI jx)), (2, .int (nI jy)), (3, .int (nI i))] → W p l e rmX6_wants s m args below meth c H locs 0 0 (MQ below (QF g n ((wantsM v (nI jx) (nI jy)).1) ((wantsM v (nI jx) (nI jy)).2)) args s 0 0 (wA g n)) (F0 m 34 ls []) := by
        clear hP hS hl
        intro k_34
        induction k_34 with
        | zero => exact fun i h1 h2 => absurd h2 (by omega)
        | succ k_34 ih_34 =>
          intro i hi_34 hk_34 H locs ls hno hP hS hl
          refine lv_iload_n C.1.1 C.1.2.1 dX6_wants_34 rfl (lv_at hl 3 rfl) ?_
          refine lv_sipush (v := 200) C.1.1 C.1.2.1 dX6_wants_35 rfl ?_
          refine lv_icmp_ge (tgt := 60) C.1.1 C.1.2.1 dX6_wants_38 (by decide) (fun c_6 => ?_) (fun c_6 => ?_)
          · rw [show (200 ≤ nI i) = (200 ≤ i) from propext (nI_leI (a := 200) (b := i) (by omega) (by omega))] at c_6
            refine lv_aload_n C.1.1 C.1.2.1 dX6_wants_60 rfl (lv_at hl 0 rfl) ?_
            refine lv_iload_n C.1.1 C.1.2.1 dX6_wants_61 rfl (lv_at hl 1 rfl) ?_
            refine lv_iload_n C.1.1 C.1.2.1 dX6_wants_62 rfl (lv_at hl 2 rfl) ?_
            refine a_B hS (run_V C hP hS hl.1 53 6 (Nat.lt_of_lt_of_le (by decide) hn) rfl (by decide) rfl [.int (nI jx), .int (nI jy)] (kX6_isWanting l g n (upw (asideM v) 54 (daysM (v.1 54) i)) jx (nI jy) (by omega)) gX6_wants_X6_isWanting rfl hdX6_isWanting rfl ⟨rfl, rfl⟩ ⟨Nat.le_of_ble_eq_true rfl, Nat.le_of_ble_eq_true rfl⟩ rfl [] rfl (Nat.le_of_ble_eq_true rfl) dX6_wants_63 ⟨Nat.zero_le _, Nat.zero_le _⟩) (fun b_7 H locs hP hS => ?_) (fun b_7 H locs hP hS => ?_)
            · skip
              rw [upw_same] at b_7
              refine lv_istore (lv' := [(4, .int 1), (0, .ref (gA g 53)), (1, .int (nI jx)), (2, .int (nI jy)), (3, .int (nI i))]) C.1.1 C.1.2.1 dX6_wants_66 hl (by decide) rfl (fun ls hl => ?_)
              refine lv_aload_n C.1.1 C.1.2.1 dX6_wants_68 rfl (lv_at hl 1 rfl) ?_
              refine r_get C hP 53 6 (Nat.lt_of_lt_of_le (by decide) hn) rfl (by decide) rfl hi6 2 (by decide) (List.mem_of_getElem? (i := 2) rfl) rfl (val := .ref (gA g 56)) rfl dX6_wants_69 ?_
              refine lv_aload_n C.1.1 C.1.2.1 dX6_wants_72 rfl (lv_at hl 1 rfl) ?_
              refine r_get C hP 53 6 (Nat.lt_of_lt_of_le (by decide) hn) rfl (by decide) rfl hi6 0 (by decide) (List.mem_of_getElem? (i := 1) rfl) rfl (val := .ref (gA g 54)) rfl dX6_wants_73 ?_
              refine a_G hS (run_S C hP hS hl.1 [.ref (gA g 56), .ref (gA g 54)] (kX6_copies l g n (upw (asideM v) 54 (daysM (v.1 54) i)) 56 54 (by decide) (by decide) (by decide)) gX6_wants_X6_copies hdX6_copies rfl ⟨rfl, rfl⟩ ⟨Nat.le_of_ble_eq_true rfl, Nat.le_of_ble_eq_true rfl⟩ rfl [] rfl (Nat.le_of_ble_eq_true rfl) dX6_wants_76 ⟨Nat.zero_le _, Nat.zero_le _⟩) (fun H locs hP hS => ?_)
              obtain ⟨v_8, hv_8⟩ : ∃ zz, zz = upw (upw (asideM v) 54 (daysM (v.1 54) i)) 54 (cpyM ((upw (asideM v) 54 (daysM (v.1 54) i)).1 56) ((upw (asideM v) 54 (daysM (v.1 54) i)).1 54) 83) := ⟨_, rfl⟩
              rw [← hv_8] at hP
              rw [show v_8 = asideM v from by rw [hv_8]; exact restoreM (fun j hj => daysM_hi hM hj i)] at hP
              refine lv_iload C.1.1 C.1.2.1 dX6_wants_79 (lv_at hl 0 rfl) ?_
              refine lv_if_eq (tgt := 88) C.1.1 C.1.2.1 dX6_wants_81 (by decide) (fun c_9 => absurd c_9 (by decide)) (fun _ => ?_)
              refine lv_iload_n C.1.1 C.1.2.1 dX6_wants_84 rfl (lv_at hl 4 rfl) ?_
              refine lv_goto (tgt := 93) C.1.1 C.1.2.1 dX6_wants_85 (by decide) ?_
              exact t_F C rfl hP hS (by rw [wantsM, nM_eq hM, cif_pos ⟨jx, hjx, rfl⟩, cif_pos ⟨jy, hjy, rfl⟩, tn_nI (show jx < 2 ^ 31 by omega)]; rw [foundM_yes hno b_7 (by omega)]) (by rw [wantsM, nM_eq hM, cif_pos ⟨jx, hjx, rfl⟩, cif_pos ⟨jy, hjy, rfl⟩, tn_nI (show jx < 2 ^ 31 by omega)]; rw [foundM_yes hno b_7 (by omega)]) dX6_wants_93
            · skip
              rw [upw_same] at b_7
              refine lv_istore (lv' := [(4, .int 0), (0, .ref (gA g 53)), (1, .int (nI jx)), (2, .int (nI jy)), (3, .int (nI i))]) C.1.1 C.1.2.1 dX6_wants_66 hl (by decide) rfl (fun ls hl => ?_)
              refine lv_aload_n C.1.1 C.1.2.1 dX6_wants_68 rfl (lv_at hl 1 rfl) ?_
              refine r_get C hP 53 6 (Nat.lt_of_lt_of_le (by decide) hn) rfl (by decide) rfl hi6 2 (by decide) (List.mem_of_getElem? (i := 2) rfl) rfl (val := .ref (gA g 56)) rfl dX6_wants_69 ?_
              refine lv_aload_n C.1.1 C.1.2.1 dX6_wants_72 rfl (lv_at hl 1 rfl) ?_
              refine r_get C hP 53 6 (Nat.lt_of_lt_of_le (by decide) hn) rfl (by decide) rfl hi6 0 (by decide) (List.mem_of_getElem? (i := 1) rfl) rfl (val := .ref (gA g 54)) rfl dX6_wants_73 ?_
              refine a_G hS (run_S C hP hS hl.1 [.ref (gA g 56), .ref (gA g 54)] (kX6_copies l g n (upw (asideM v) 54 (daysM (v.1 54) i)) 56 54 (by decide) (by decide) (by decide)) gX6_wants_X6_copies hdX6_copies rfl ⟨rfl, rfl⟩ ⟨Nat.le_of_ble_eq_true rfl, Nat.le_of_ble_eq_true rfl⟩ rfl [] rfl (Nat.le_of_ble_eq_true rfl) dX6_wants_76 ⟨Nat.zero_le _, Nat.zero_le _⟩) (fun H locs hP hS => ?_)
              obtain ⟨v_10, hv_10⟩ : ∃ zz, zz = upw (upw (asideM v) 54 (daysM (v.1 54) i)) 54 (cpyM ((upw (asideM v) 54 (daysM (v.1 54) i)).1 56) ((upw (asideM v) 54 (daysM (v.1 54) i)).1 54) 83) := ⟨_, rfl⟩
              rw [← hv_10] at hP
              rw [show v_10 = asideM v from by rw [hv_10]; exact restoreM (fun j hj => daysM_hi hM hj i)] at hP
              refine lv_iload C.1.1 C.1.2.1 dX6_wants_79 (lv_at hl 0 rfl) ?_
              refine lv_if_eq (tgt := 88) C.1.1 C.1.2.1 dX6_wants_81 (by decide) (fun _ => ?_) (fun c_11 => absurd c_11 (by decide))
              refine lv_aload_n C.1.1 C.1.2.1 dX6_wants_88 rfl (lv_at hl 1 rfl) ?_
              refine lv_iconst (v := 3) C.1.1 C.1.2.1 dX6_wants_89 rfl ?_
              refine a_F hS (run_V C hP hS hl.1 53 6 (Nat.lt_of_lt_of_le (by decide) hn) rfl (by decide) rfl [.int 3] (kX6_finds l g n (asideM v) 3 (by decide)) gX6_wants_X6_finds rfl hdX6_finds rfl ⟨rfl, rfl⟩ ⟨Nat.le_of_ble_eq_true rfl, Nat.le_of_ble_eq_true rfl⟩ rfl [] rfl (Nat.le_of_ble_eq_true rfl) dX6_wants_90 ⟨Nat.zero_le _, Nat.zero_le _⟩) (fun H locs hP hS => ?_)
              obtain ⟨v_12, hv_12⟩ : ∃ zz, zz = fnd (asideM v) 3 := ⟨_, rfl⟩
              rw [← hv_12] at hP
              exact t_F C rfl hP hS (by rw [wantsM, nM_eq hM, cif_pos ⟨jx, hjx, rfl⟩, cif_pos ⟨jy, hjy, rfl⟩, tn_nI (show jx < 2 ^ 31 by omega)]; rw [foundM_no (fun t ht => if h9 : t < i then hno t h9 else by rw [show t = i by omega]; exact b_7)]; rfl) (by rw [wantsM, nM_eq hM, cif_pos ⟨jx, hjx, rfl⟩, cif_pos ⟨jy, hjy, rfl⟩, tn_nI (show jx < 2 ^ 31 by omega)]; rw [foundM_no (fun t ht => if h9 : t < i then hno t h9 else by rw [show t = i by omega]; exact b_7), hv_12]; rfl) dX6_wants_93
          · rw [show (200 ≤ nI i) = (200 ≤ i) from propext (nI_leI (a := 200) (b := i) (by omega) (by omega))] at c_6
            refine lv_aload_n C.1.1 C.1.2.1 dX6_wants_41 rfl (lv_at hl 0 rfl) ?_
            refine lv_iload_n C.1.1 C.1.2.1 dX6_wants_42 rfl (lv_at hl 1 rfl) ?_
            refine lv_iload_n C.1.1 C.1.2.1 dX6_wants_43 rfl (lv_at hl 2 rfl) ?_
            refine a_B hS (run_V C hP hS hl.1 53 6 (Nat.lt_of_lt_of_le (by decide) hn) rfl (by decide) rfl [.int (nI jx), .int (nI jy)] (kX6_isWanting l g n (upw (asideM v) 54 (daysM (v.1 54) i)) jx (nI jy) (by omega)) gX6_wants_X6_isWanting rfl hdX6_isWanting rfl ⟨rfl, rfl⟩ ⟨Nat.le_of_ble_eq_true rfl, Nat.le_of_ble_eq_true rfl⟩ rfl [] rfl (Nat.le_of_ble_eq_true rfl) dX6_wants_44 ⟨Nat.zero_le _, Nat.zero_le _⟩) (fun b_13 H locs hP hS => ?_) (fun b_13 H locs hP hS => ?_)
            · skip
              rw [upw_same] at b_13
              refine lv_if_ne (tgt := 60) C.1.1 C.1.2.1 dX6_wants_47 (by decide) (fun _ => ?_) (fun c_14 => absurd c_14 (by decide))
              refine lv_aload_n C.1.1 C.1.2.1 dX6_wants_60 rfl (lv_at hl 0 rfl) ?_
              refine lv_iload_n C.1.1 C.1.2.1 dX6_wants_61 rfl (lv_at hl 1 rfl) ?_
              refine lv_iload_n C.1.1 C.1.2.1 dX6_wants_62 rfl (lv_at hl 2 rfl) ?_
              refine a_B hS (run_V C hP hS hl.1 53 6 (Nat.lt_of_lt_of_le (by decide) hn) rfl (by decide) rfl [.int (nI jx), .int (nI jy)] (kX6_isWanting l g n (upw (asideM v) 54 (daysM (v.1 54) i)) jx (nI jy) (by omega)) gX6_wants_X6_isWanting rfl hdX6_isWanting rfl ⟨rfl, rfl⟩ ⟨Nat.le_of_ble_eq_true rfl, Nat.le_of_ble_eq_true rfl⟩ rfl [] rfl (Nat.le_of_ble_eq_true rfl) dX6_wants_63 ⟨Nat.zero_le _, Nat.zero_le _⟩) (fun b_15 H locs hP hS => ?_) (fun b_15 H locs hP hS => ?_)
              · skip
                rw [upw_same] at b_15
                refine lv_istore (lv' := [(4, .int 1), (0, .ref (gA g 53)), (1, .int (nI jx)), (2, .int (nI jy)), (3, .int (nI i))]) C.1.1 C.1.2.1 dX6_wants_66 hl (by decide) rfl (fun ls hl => ?_)
                refine lv_aload_n C.1.1 C.1.2.1 dX6_wants_68 rfl (lv_at hl 1 rfl) ?_
                refine r_get C hP 53 6 (Nat.lt_of_lt_of_le (by decide) hn) rfl (by decide) rfl hi6 2 (by decide) (List.mem_of_getElem? (i := 2) rfl) rfl (val := .ref (gA g 56)) rfl dX6_wants_69 ?_
                refine lv_aload_n C.1.1 C.1.2.1 dX6_wants_72 rfl (lv_at hl 1 rfl) ?_
                refine r_get C hP 53 6 (Nat.lt_of_lt_of_le (by decide) hn) rfl (by decide) rfl hi6 0 (by decide) (List.mem_of_getElem? (i := 1) rfl) rfl (val := .ref (gA g 54)) rfl dX6_wants_73 ?_
                refine a_G hS (run_S C hP hS hl.1 [.ref (gA g 56), .ref (gA g 54)] (kX6_copies l g n (upw (asideM v) 54 (daysM (v.1 54) i)) 56 54 (by decide) (by decide) (by decide)) gX6_wants_X6_copies hdX6_copies rfl ⟨rfl, rfl⟩ ⟨Nat.le_of_ble_eq_true rfl, Nat.le_of_ble_eq_true rfl⟩ rfl [] rfl (Nat.le_of_ble_eq_true rfl) dX6_wants_76 ⟨Nat.zero_le _, Nat.zero_le _⟩) (fun H locs hP hS => ?_)
                obtain ⟨v_16, hv_16⟩ : ∃ zz, zz = upw (upw (asideM v) 54 (daysM (v.1 54) i)) 54 (cpyM ((upw (asideM v) 54 (daysM (v.1 54) i)).1 56) ((upw (asideM v) 54 (daysM (v.1 54) i)).1 54) 83) := ⟨_, rfl⟩
                rw [← hv_16] at hP
                rw [show v_16 = asideM v from by rw [hv_16]; exact restoreM (fun j hj => daysM_hi hM hj i)] at hP
                refine lv_iload C.1.1 C.1.2.1 dX6_wants_79 (lv_at hl 0 rfl) ?_
                refine lv_if_eq (tgt := 88) C.1.1 C.1.2.1 dX6_wants_81 (by decide) (fun c_17 => absurd c_17 (by decide)) (fun _ => ?_)
                refine lv_iload_n C.1.1 C.1.2.1 dX6_wants_84 rfl (lv_at hl 4 rfl) ?_
                refine lv_goto (tgt := 93) C.1.1 C.1.2.1 dX6_wants_85 (by decide) ?_
                exact t_F C rfl hP hS (by rw [wantsM, nM_eq hM, cif_pos ⟨jx, hjx, rfl⟩, cif_pos ⟨jy, hjy, rfl⟩, tn_nI (show jx < 2 ^ 31 by omega)]; rw [foundM_yes hno b_15 (by omega)]) (by rw [wantsM, nM_eq hM, cif_pos ⟨jx, hjx, rfl⟩, cif_pos ⟨jy, hjy, rfl⟩, tn_nI (show jx < 2 ^ 31 by omega)]; rw [foundM_yes hno b_15 (by omega)]) dX6_wants_93
              · skip
                rw [upw_same] at b_15
                refine lv_istore (lv' := [(4, .int 0), (0, .ref (gA g 53)), (1, .int (nI jx)), (2, .int (nI jy)), (3, .int (nI i))]) C.1.1 C.1.2.1 dX6_wants_66 hl (by decide) rfl (fun ls hl => ?_)
                refine lv_aload_n C.1.1 C.1.2.1 dX6_wants_68 rfl (lv_at hl 1 rfl) ?_
                refine r_get C hP 53 6 (Nat.lt_of_lt_of_le (by decide) hn) rfl (by decide) rfl hi6 2 (by decide) (List.mem_of_getElem? (i := 2) rfl) rfl (val := .ref (gA g 56)) rfl dX6_wants_69 ?_
                refine lv_aload_n C.1.1 C.1.2.1 dX6_wants_72 rfl (lv_at hl 1 rfl) ?_
                refine r_get C hP 53 6 (Nat.lt_of_lt_of_le (by decide) hn) rfl (by decide) rfl hi6 0 (by decide) (List.mem_of_getElem? (i := 1) rfl) rfl (val := .ref (gA g 54)) rfl dX6_wants_73 ?_
                refine a_G hS (run_S C hP hS hl.1 [.ref (gA g 56), .ref (gA g 54)] (kX6_copies l g n (upw (asideM v) 54 (daysM (v.1 54) i)) 56 54 (by decide) (by decide) (by decide)) gX6_wants_X6_copies hdX6_copies rfl ⟨rfl, rfl⟩ ⟨Nat.le_of_ble_eq_true rfl, Nat.le_of_ble_eq_true rfl⟩ rfl [] rfl (Nat.le_of_ble_eq_true rfl) dX6_wants_76 ⟨Nat.zero_le _, Nat.zero_le _⟩) (fun H locs hP hS => ?_)
                obtain ⟨v_18, hv_18⟩ : ∃ zz, zz = upw (upw (asideM v) 54 (daysM (v.1 54) i)) 54 (cpyM ((upw (asideM v) 54 (daysM (v.1 54) i)).1 56) ((upw (asideM v) 54 (daysM (v.1 54) i)).1 54) 83) := ⟨_, rfl⟩
                rw [← hv_18] at hP
                rw [show v_18 = asideM v from by rw [hv_18]; exact restoreM (fun j hj => daysM_hi hM hj i)] at hP
                refine lv_iload C.1.1 C.1.2.1 dX6_wants_79 (lv_at hl 0 rfl) ?_
                refine lv_if_eq (tgt := 88) C.1.1 C.1.2.1 dX6_wants_81 (by decide) (fun _ => ?_) (fun c_19 => absurd c_19 (by decide))
                refine lv_aload_n C.1.1 C.1.2.1 dX6_wants_88 rfl (lv_at hl 1 rfl) ?_
                refine lv_iconst (v := 3) C.1.1 C.1.2.1 dX6_wants_89 rfl ?_
                refine a_F hS (run_V C hP hS hl.1 53 6 (Nat.lt_of_lt_of_le (by decide) hn) rfl (by decide) rfl [.int 3] (kX6_finds l g n (asideM v) 3 (by decide)) gX6_wants_X6_finds rfl hdX6_finds rfl ⟨rfl, rfl⟩ ⟨Nat.le_of_ble_eq_true rfl, Nat.le_of_ble_eq_true rfl⟩ rfl [] rfl (Nat.le_of_ble_eq_true rfl) dX6_wants_90 ⟨Nat.zero_le _, Nat.zero_le _⟩) (fun H locs hP hS => ?_)
                obtain ⟨v_20, hv_20⟩ : ∃ zz, zz = fnd (asideM v) 3 := ⟨_, rfl⟩
                rw [← hv_20] at hP
                exact t_F C rfl hP hS (absurd b_13 b_15) (absurd b_13 b_15) dX6_wants_93
            · skip
              rw [upw_same] at b_13
              refine lv_if_ne (tgt := 60) C.1.1 C.1.2.1 dX6_wants_47 (by decide) (fun c_21 => absurd c_21 (by decide)) (fun _ => ?_)
              refine lv_aload_n C.1.1 C.1.2.1 dX6_wants_50 rfl (lv_at hl 0 rfl) ?_
              refine a_G hS (run_V C hP hS hl.1 53 6 (Nat.lt_of_lt_of_le (by decide) hn) rfl (by decide) rfl [] (kX6_dayGoes l g n (upw (asideM v) 54 (daysM (v.1 54) i)) N (by rw [upw_same]; exact okM_days hM i)) gX6_wants_X6_dayGoes rfl hdX6_dayGoes rfl ⟨rfl, rfl⟩ ⟨Nat.le_of_ble_eq_true rfl, Nat.le_of_ble_eq_true rfl⟩ rfl [] rfl (Nat.le_of_ble_eq_true rfl) dX6_wants_51 ⟨Nat.zero_le _, Nat.zero_le _⟩) (fun H locs hP hS => ?_)
              obtain ⟨v_22, hv_22⟩ : ∃ zz, zz = upw (upw (asideM v) 54 (daysM (v.1 54) i)) 54 (dayM ((upw (asideM v) 54 (daysM (v.1 54) i)).1 54)) := ⟨_, rfl⟩
              rw [← hv_22] at hP
              refine lv_iinc (v := nI (i + 1)) (lv' := [(3, .int (nI (i + 1))), (0, .ref (gA g 53)), (1, .int (nI jx)), (2, .int (nI jy))]) C.1.1 C.1.2.1 dX6_wants_54 hl (k := 3) rfl (nI_1 i) (by decide) rfl (fun ls hl => ?_)
              refine lv_goto (tgt := 34) C.1.1 C.1.2.1 dX6_wants_57 (by decide) ?_
              exact ih_34 (i + 1) (by omega) (by omega) _ _ _ (fun t ht => if h9 : t < i then hno t h9 else by rw [show t = i by omega]; exact b_13) (by rw [hv_22, upw_same, upw_upw] at hP; exact hP) hS (lv_sub hl [1, 2, 3, 0] rfl)
      exact lp_34 (200 + 1) 0 (Nat.zero_le _) (by omega) _ _ _ (fun t ht => absurd ht (Nat.not_lt_zero t)) (by rw [show daysM (v.1 54) 0 = (asideM v).1 54 from (asideM_54 v).symm, upw_self]; exact hP) hS (lv_sub hl [1, 2, 3, 0] rfl)
    · skip
      refine lv_if_ne (tgt := 21) C.1.1 C.1.2.1 dX6_wants_12 (by decide) (fun c_23 => absurd c_23 (by decide)) (fun _ => ?_)
      refine lv_aload_n C.1.1 C.1.2.1 dX6_wants_15 rfl (lv_at hl 0 rfl) ?_
      refine lv_iconst (v := 0) C.1.1 C.1.2.1 dX6_wants_16 rfl ?_
      refine a_F hS (run_V C hP hS hl.1 53 6 (Nat.lt_of_lt_of_le (by decide) hn) rfl (by decide) rfl [.int 0] (kX6_finds l g n v 0 (by decide)) gX6_wants_X6_finds rfl hdX6_finds rfl ⟨rfl, rfl⟩ ⟨Nat.le_of_ble_eq_true rfl, Nat.le_of_ble_eq_true rfl⟩ rfl [] rfl (Nat.le_of_ble_eq_true rfl) dX6_wants_17 ⟨Nat.zero_le _, Nat.zero_le _⟩) (fun H locs hP hS => ?_)
      obtain ⟨v_24, hv_24⟩ : ∃ zz, zz = fnd v 0 := ⟨_, rfl⟩
      rw [← hv_24] at hP
      exact t_F C rfl hP hS (by (rw [wantsM, nM_eq hM]; rw [cif_pos ⟨jx, hjx, rfl⟩]; (try simp only [tn_nI (show jx < 2 ^ 31 by omega)]); rw [cif_neg b_3]) <;> try simp only [fdM, upw_same, eq_self, if_true, if_false, ite_true, ite_false, ↓reduceIte, tn_nI (show jx < 2 ^ 31 by omega), hv_24, nM_eq hM]) (by (rw [wantsM, nM_eq hM]; rw [cif_pos ⟨jx, hjx, rfl⟩]; (try simp only [tn_nI (show jx < 2 ^ 31 by omega)]); rw [cif_neg b_3]) <;> try simp only [fdM, upw_same, eq_self, if_true, if_false, ite_true, ite_false, ↓reduceIte, tn_nI (show jx < 2 ^ 31 by omega), hv_24, nM_eq hM]) dX6_wants_20
  · skip
    refine lv_if_eq (tgt := 15) C.1.1 C.1.2.1 dX6_wants_5 (by decide) (fun _ => ?_) (fun c_25 => absurd c_25 (by decide))
    refine lv_aload_n C.1.1 C.1.2.1 dX6_wants_15 rfl (lv_at hl 0 rfl) ?_
    refine lv_iconst (v := 0) C.1.1 C.1.2.1 dX6_wants_16 rfl ?_
    refine a_F hS (run_V C hP hS hl.1 53 6 (Nat.lt_of_lt_of_le (by decide) hn) rfl (by decide) rfl [.int 0] (kX6_finds l g n v 0 (by decide)) gX6_wants_X6_finds rfl hdX6_finds rfl ⟨rfl, rfl⟩ ⟨Nat.le_of_ble_eq_true rfl, Nat.le_of_ble_eq_true rfl⟩ rfl [] rfl (Nat.le_of_ble_eq_true rfl) dX6_wants_17 ⟨Nat.zero_le _, Nat.zero_le _⟩) (fun H locs hP hS => ?_)
    obtain ⟨v_26, hv_26⟩ : ∃ zz, zz = fnd v 0 := ⟨_, rfl⟩
    rw [← hv_26] at hP
    exact t_F C rfl hP hS (by (rw [wantsM, nM_eq hM]; rw [cif_neg b_1]) <;> try simp only [fdM, upw_same, eq_self, if_true, if_false, ite_true, ite_false, ↓reduceIte, hv_26, nM_eq hM]) (by (rw [wantsM, nM_eq hM]; rw [cif_neg b_1]) <;> try simp only [fdM, upw_same, eq_self, if_true, if_false, ite_true, ite_false, ↓reduceIte, hv_26, nM_eq hM]) dX6_wants_20

abbrev rmX6_bestOf : Room := { frames := 6, cells := 0, slots := 0, locals := 135 }
set_option maxHeartbeats 4000000 in
set_option maxRecDepth 100000 in
theorem kX6_bestOf (l : Launch) (g : GG) (n : Nat) (v : SV) (wh mo ob k : Nat) (h1 : wh < 83) (h2 : mo < 16) (h3 : ob < 83) (h4 : k ≤ 60) (N : Nat) (hM : okM (v.1 54) N) (hW : ∀ i, i ≤ mo → okM (upd (v.1 54) wh (nI i)) N) : Met l yX6_bestOf wsX6_bestOf rmX6_bestOf (PW g n v [.ref (gA g 53), .int (nI wh), .int (nI mo), .int (nI ob), .int (nI k)]) (QF g n ((btM (v.1 54) wh ob k (mo + 1)).1) (asideM v)) 0 0 (wA g n) := by
  refine Met.begin RX6 rfl (by decide) rfl (Nat.le_of_ble_eq_true rfl) ?_
  intro p e s m args below meth c ls ha C hP hS hl
  have hn : 64 ≤ n := C.2.1.1.2.1
  have hi6 : ∀ w ∈ u_ws RX6 TX6 17, w ∈ wsX6_bestOf := by decide +kernel
  have hl : lv_has ls 9 [(0, .ref (gA g 53)), (1, .int (nI wh)), (2, .int (nI mo)), (3, .int (nI ob)), (4, .int (nI k))] := hl
  have h8 := hM.1
  refine lv_aload_n C.1.1 C.1.2.1 dX6_bestOf_0 rfl (lv_at hl 0 rfl) ?_
  refine r_get C hP 53 6 (Nat.lt_of_lt_of_le (by decide) hn) rfl (by decide) rfl hi6 0 (by decide) (List.mem_of_getElem? (i := 1) rfl) rfl (val := .ref (gA g 54)) rfl dX6_bestOf_1 ?_
  refine lv_aload_n C.1.1 C.1.2.1 dX6_bestOf_4 rfl (lv_at hl 0 rfl) ?_
  refine r_get C hP 53 6 (Nat.lt_of_lt_of_le (by decide) hn) rfl (by decide) rfl hi6 2 (by decide) (List.mem_of_getElem? (i := 2) rfl) rfl (val := .ref (gA g 56)) rfl dX6_bestOf_5 ?_
  refine a_G hS (run_S C hP hS hl.1 [.ref (gA g 54), .ref (gA g 56)] (kX6_copies l g n v 54 56 (by decide) (by decide) (by decide)) gX6_bestOf_X6_copies hdX6_copies rfl ⟨rfl, rfl⟩ ⟨Nat.le_of_ble_eq_true rfl, Nat.le_of_ble_eq_true rfl⟩ rfl [] rfl (Nat.le_of_ble_eq_true rfl) dX6_bestOf_8 ⟨Nat.zero_le _, Nat.zero_le _⟩) (fun H locs hP hS => ?_)
  obtain ⟨v_1, hv_1⟩ : ∃ zz, zz = upw v 56 (cpyM (v.1 54) (v.1 56) 83) := ⟨_, rfl⟩
  rw [← hv_1] at hP
  rw [show v_1 = asideM v from hv_1] at hP
  refine lv_iconst (v := 0) C.1.1 C.1.2.1 dX6_bestOf_11 rfl ?_
  refine lv_istore (lv' := [(5, .int 0), (0, .ref (gA g 53)), (1, .int (nI wh)), (2, .int (nI mo)), (3, .int (nI ob)), (4, .int (nI k))]) C.1.1 C.1.2.1 dX6_bestOf_12 hl (by decide) rfl (fun ls hl => ?_)
  refine lv_iconst (v := (-1)) C.1.1 C.1.2.1 dX6_bestOf_14 rfl ?_
  refine lv_istore (lv' := [(6, .int (-1)), (5, .int 0), (0, .ref (gA g 53)), (1, .int (nI wh)), (2, .int (nI mo)), (3, .int (nI ob)), (4, .int (nI k))]) C.1.1 C.1.2.1 dX6_bestOf_15 hl (by decide) rfl (fun ls hl => ?_)
  refine lv_iconst (v := 0) C.1.1 C.1.2.1 dX6_bestOf_17 rfl ?_
  refine lv_istore (lv' := [(7, .int 0), (6, .int (-1)), (5, .int 0), (0, .ref (gA g 53)), (1, .int (nI wh)), (2, .int (nI mo)), (3, .int (nI ob)), (4, .int (nI k))]) C.1.1 C.1.2.1 dX6_bestOf_18 hl (by decide) rfl (fun ls hl => ?_)
  have lp_20 : ∀ (k_20 i : Nat), i ≤ mo + 1 → (mo + 1) + 1 ≤ i + k_20 → ∀ (H : Heap) (locs : List Loc) (ls : Array Slot), va_P g.1 vwCl (wl g n (asideM v)) H → va_S (wA g n) s.heap H locs → lv_has ls 9 [(0, .ref (gA g 53)), (1, .int (nI wh)), (2, .int (nI mo)), (3, .int (nI ob)), (4, .int (nI k)), (5, .int ((btM (v.1 54) wh ob k i).1)), (6, .int ((btM (v.1 54) wh ob k i).2)), (7, .int (nI i))] → W p l e rmX6_bestOf s m args below meth c H locs 0 0 (MQ below (QF g n ((btM (v.1 54) wh ob k (mo + 1)).1) (asideM v)) args s 0 0 (wA g n)) (F0 m 20 ls []) := by
    clear hP hS hl
    intro k_20
    induction k_20 with
    | zero => exact fun i h1 h2 => absurd h2 (by omega)
    | succ k_20 ih_20 =>
      intro i hi_20 hk_20 H locs ls hP hS hl
      refine lv_iload C.1.1 C.1.2.1 dX6_bestOf_20 (lv_at hl 7 rfl) ?_
      refine lv_iload_n C.1.1 C.1.2.1 dX6_bestOf_22 rfl (lv_at hl 2 rfl) ?_
      refine lv_icmp_gt (tgt := 64) C.1.1 C.1.2.1 dX6_bestOf_23 (by decide) (fun c_2 => ?_) (fun c_2 => ?_)
      · rw [show (nI mo < nI i) = (mo < i) from propext (nI_ltI (a := mo) (b := i) (by omega) (by omega))] at c_2
        have him : i = mo + 1 := by omega
        refine lv_iload C.1.1 C.1.2.1 dX6_bestOf_64 (lv_at hl 5 rfl) ?_
        exact t_F C rfl hP hS (by rw [him]) rfl dX6_bestOf_66
      · rw [show (nI mo < nI i) = (mo < i) from propext (nI_ltI (a := mo) (b := i) (by omega) (by omega))] at c_2
        refine lv_aload_n C.1.1 C.1.2.1 dX6_bestOf_26 rfl (lv_at hl 0 rfl) ?_
        refine r_get C hP 53 6 (Nat.lt_of_lt_of_le (by decide) hn) rfl (by decide) rfl hi6 0 (by decide) (List.mem_of_getElem? (i := 1) rfl) rfl (val := .ref (gA g 54)) rfl dX6_bestOf_27 ?_
        refine lv_iload_n C.1.1 C.1.2.1 dX6_bestOf_30 rfl (lv_at hl 1 rfl) ?_
        refine lv_iload C.1.1 C.1.2.1 dX6_bestOf_31 (lv_at hl 7 rfl) ?_
        refine r_iast C hP hS 54 (Nat.lt_of_lt_of_le (by decide) hn) rfl wh rfl (N := 83) rfl (by decide) (by omega) dX6_bestOf_33 (fun H locs hP hS => ?_)
        obtain ⟨v_3, hv_3⟩ : ∃ zz, zz = up (asideM v) 54 wh (nI i) := ⟨_, rfl⟩
        rw [← hv_3] at hP
        rw [show v_3 = upw (asideM v) 54 (upd (v.1 54) wh (nI i)) from by rw [hv_3]; show upw (asideM v) 54 (upd ((asideM v).1 54) wh (nI i)) = _; rw [asideM_54]] at hP
        refine lv_aload_n C.1.1 C.1.2.1 dX6_bestOf_34 rfl (lv_at hl 0 rfl) ?_
        refine lv_iload C.1.1 C.1.2.1 dX6_bestOf_35 (lv_at hl 4 rfl) ?_
        refine lv_iload_n C.1.1 C.1.2.1 dX6_bestOf_37 rfl (lv_at hl 3 rfl) ?_
        refine a_F hS (run_V C hP hS hl.1 53 6 (Nat.lt_of_lt_of_le (by decide) hn) rfl (by decide) rfl [.int (nI k), .int (nI ob)] (kX6_behind l g n (upw (asideM v) 54 (upd (v.1 54) wh (nI i))) k ob (by omega) (by omega) N (by rw [upw_same]; exact hW i (by omega))) gX6_bestOf_X6_behind rfl hdX6_behind rfl ⟨rfl, rfl⟩ ⟨Nat.le_of_ble_eq_true rfl, Nat.le_of_ble_eq_true rfl⟩ rfl [] rfl (Nat.le_of_ble_eq_true rfl) dX6_bestOf_38 ⟨Nat.zero_le _, Nat.zero_le _⟩) (fun H locs hP hS => ?_)
        obtain ⟨v_4, hv_4⟩ : ∃ zz, zz = upw (upw (asideM v) 54 (upd (v.1 54) wh (nI i))) 54 (cpyM ((upw (asideM v) 54 (upd (v.1 54) wh (nI i))).1 56) (daysM ((upw (asideM v) 54 (upd (v.1 54) wh (nI i))).1 54) k) 83) := ⟨_, rfl⟩
        rw [← hv_4] at hP
        refine lv_topE (daysM (upd (v.1 54) wh (nI i)) k ob) (by rw [upw_same]) ?_
        rw [show v_4 = asideM v from by rw [hv_4]; exact restoreC (fun j hj => by rw [daysM_hi (hW i (by omega)) hj]; simp only [upd]; rw [if_neg (by omega)])] at hP
        refine lv_istore (lv' := [(8, .int (daysM (upd (v.1 54) wh (nI i)) k ob)), (0, .ref (gA g 53)), (1, .int (nI wh)), (2, .int (nI mo)), (3, .int (nI ob)), (4, .int (nI k)), (5, .int ((btM (v.1 54) wh ob k i).1)), (6, .int ((btM (v.1 54) wh ob k i).2)), (7, .int (nI i))]) C.1.1 C.1.2.1 dX6_bestOf_41 hl (by decide) rfl (fun ls hl => ?_)
        refine lv_iload C.1.1 C.1.2.1 dX6_bestOf_43 (lv_at hl 0 rfl) ?_
        refine lv_iload C.1.1 C.1.2.1 dX6_bestOf_45 (lv_at hl 7 rfl) ?_
        refine lv_icmp_le (tgt := 58) C.1.1 C.1.2.1 dX6_bestOf_47 (by decide) (fun c_5 => ?_) (fun c_5 => ?_)
        · skip
          refine lv_iinc (v := nI (i + 1)) (lv' := [(7, .int (nI (i + 1))), (8, .int (daysM (upd (v.1 54) wh (nI i)) k ob)), (0, .ref (gA g 53)), (1, .int (nI wh)), (2, .int (nI mo)), (3, .int (nI ob)), (4, .int (nI k)), (5, .int ((btM (v.1 54) wh ob k i).1)), (6, .int ((btM (v.1 54) wh ob k i).2))]) C.1.1 C.1.2.1 dX6_bestOf_58 hl (k := 8) rfl (nI_1 i) (by decide) rfl (fun ls hl => ?_)
          refine lv_goto (tgt := 20) C.1.1 C.1.2.1 dX6_bestOf_61 (by decide) ?_
          exact ih_20 (i + 1) (by omega) (by omega) _ _ _ hP hS (by have h9 := lv_sub hl [2, 3, 4, 5, 6, 7, 8, 0] rfl; rw [show btM (v.1 54) wh ob k (i + 1) = _ from btM_no c_5]; exact h9)
        · skip
          refine lv_iload C.1.1 C.1.2.1 dX6_bestOf_50 (lv_at hl 8 rfl) ?_
          refine lv_istore (lv' := [(5, .int (nI i)), (8, .int (daysM (upd (v.1 54) wh (nI i)) k ob)), (0, .ref (gA g 53)), (1, .int (nI wh)), (2, .int (nI mo)), (3, .int (nI ob)), (4, .int (nI k)), (6, .int ((btM (v.1 54) wh ob k i).2)), (7, .int (nI i))]) C.1.1 C.1.2.1 dX6_bestOf_52 hl (by decide) rfl (fun ls hl => ?_)
          refine lv_iload C.1.1 C.1.2.1 dX6_bestOf_54 (lv_at hl 1 rfl) ?_
          refine lv_istore (lv' := [(6, .int (daysM (upd (v.1 54) wh (nI i)) k ob)), (5, .int (nI i)), (8, .int (daysM (upd (v.1 54) wh (nI i)) k ob)), (0, .ref (gA g 53)), (1, .int (nI wh)), (2, .int (nI mo)), (3, .int (nI ob)), (4, .int (nI k)), (7, .int (nI i))]) C.1.1 C.1.2.1 dX6_bestOf_56 hl (by decide) rfl (fun ls hl => ?_)
          refine lv_iinc (v := nI (i + 1)) (lv' := [(7, .int (nI (i + 1))), (6, .int (daysM (upd (v.1 54) wh (nI i)) k ob)), (5, .int (nI i)), (8, .int (daysM (upd (v.1 54) wh (nI i)) k ob)), (0, .ref (gA g 53)), (1, .int (nI wh)), (2, .int (nI mo)), (3, .int (nI ob)), (4, .int (nI k))]) C.1.1 C.1.2.1 dX6_bestOf_58 hl (k := 8) rfl (nI_1 i) (by decide) rfl (fun ls hl => ?_)
          refine lv_goto (tgt := 20) C.1.1 C.1.2.1 dX6_bestOf_61 (by decide) ?_
          exact ih_20 (i + 1) (by omega) (by omega) _ _ _ hP hS (by have h9 := lv_sub hl [4, 5, 6, 7, 8, 2, 1, 0] rfl; rw [show btM (v.1 54) wh ob k (i + 1) = _ from btM_yes c_5]; exact h9)
  exact lp_20 (mo + 1 + 1) 0 (Nat.zero_le _) (by omega) _ _ _ hP hS (lv_sub hl [3, 4, 5, 6, 7, 2, 1, 0] rfl)

abbrev rmX6_cryFor : Room := { frames := 7, cells := 0, slots := 0, locals := 163 }
set_option maxHeartbeats 4000000 in
set_option maxRecDepth 100000 in
theorem kX6_cryFor (l : Launch) (g : GG) (n : Nat) (v : SV) (x y : Int32) (N : Nat) (hM : okM (v.1 54) N) : Met l yX6_cryFor wsX6_cryFor rmX6_cryFor (PW g n v [.ref (gA g 53), .int x, .int y]) (QF g n ((cryForM v x y).1) ((cryForM v x y).2)) 0 0 (wA g n) := by
  refine Met.begin RX6 rfl (by decide) rfl (Nat.le_of_ble_eq_true rfl) ?_
  intro p e s m args below meth c ls ha C hP hS hl
  have hn : 64 ≤ n := C.2.1.1.2.1
  have hi6 : ∀ w ∈ u_ws RX6 TX6 17, w ∈ wsX6_cryFor := by decide +kernel
  have hl : lv_has ls 3 [(0, .ref (gA g 53)), (1, .int x), (2, .int y)] := hl
  have h8 := hM.1
  refine lv_iload_n C.1.1 C.1.2.1 dX6_cryFor_0 rfl (lv_at hl 1 rfl) ?_
  refine lv_i2l (v := x.toInt64) C.1.1 C.1.2.1 dX6_cryFor_1 rfl ?_
  refine lv_lconst (v := 0) C.1.1 C.1.2.1 dX6_cryFor_2 rfl ?_
  refine lv_ldc2 (v := 5) C.1.1 C.1.2.1 C.1.2.2.2.1 (C.1.2.2.2.2 _ (List.mem_of_getElem? (i := 1) rfl)) dX6_cryFor_3 ?_
  refine a_B hS (run_S C hP hS hl.1 [.long x.toInt64, .long 0, .long 5] (kX6_in l g n v x.toInt64 0 5) gX6_cryFor_X6_in hdX6_in rfl ⟨rfl, rfl⟩ ⟨Nat.le_of_ble_eq_true rfl, Nat.le_of_ble_eq_true rfl⟩ rfl [] rfl (Nat.le_of_ble_eq_true rfl) dX6_cryFor_6 ⟨Nat.zero_le _, Nat.zero_le _⟩) (fun b_1 H locs hP hS => ?_) (fun b_1 H locs hP hS => ?_)
  · skip
    have b_1 := (in_iff 6 (by decide) (by decide)).mp b_1
    obtain ⟨jx, hjx, rfl⟩ := b_1
    refine lv_if_eq (tgt := 35) C.1.1 C.1.2.1 dX6_cryFor_9 (by decide) (fun c_2 => absurd c_2 (by decide)) (fun _ => ?_)
    refine lv_iload_n C.1.1 C.1.2.1 dX6_cryFor_12 rfl (lv_at hl 2 rfl) ?_
    refine a_B hS (run_S C hP hS hl.1 [.int y] (kX6_isShort l g n v y) gX6_cryFor_X6_isShort hdX6_isShort rfl ⟨rfl, rfl⟩ ⟨Nat.le_of_ble_eq_true rfl, Nat.le_of_ble_eq_true rfl⟩ rfl [] rfl (Nat.le_of_ble_eq_true rfl) dX6_cryFor_13 ⟨Nat.zero_le _, Nat.zero_le _⟩) (fun b_3 H locs hP hS => ?_) (fun b_3 H locs hP hS => ?_)
    · skip
      obtain ⟨jy, hjy, rfl⟩ := b_3
      refine lv_if_eq (tgt := 35) C.1.1 C.1.2.1 dX6_cryFor_16 (by decide) (fun c_4 => absurd c_4 (by decide)) (fun _ => ?_)
      refine lv_aload_n C.1.1 C.1.2.1 dX6_cryFor_19 rfl (lv_at hl 0 rfl) ?_
      refine lv_bipush (v := 7) C.1.1 C.1.2.1 dX6_cryFor_20 rfl ?_
      refine lv_iload_n C.1.1 C.1.2.1 dX6_cryFor_22 rfl (lv_at hl 1 rfl) ?_
      refine lv_iadd C.1.1 C.1.2.1 dX6_cryFor_23 ?_
      refine lv_topE (nI (7 + jx)) (nI_add 7 jx) ?_
      refine lv_bipush (v := 11) C.1.1 C.1.2.1 dX6_cryFor_24 rfl ?_
      refine lv_bipush (v := 6) C.1.1 C.1.2.1 dX6_cryFor_26 rfl ?_
      refine lv_iload_n C.1.1 C.1.2.1 dX6_cryFor_28 rfl (lv_at hl 2 rfl) ?_
      refine a_F hS (run_V C hP hS hl.1 53 6 (Nat.lt_of_lt_of_le (by decide) hn) rfl (by decide) rfl [.int (nI (7 + jx)), .int 11, .int 6, .int (nI jy)] (kX6_bestOf l g n v (7 + jx) 11 6 jy (by omega) (by omega) (by omega) (by omega) N hM (fun i hi => okM_list hM (by omega) (by omega))) gX6_cryFor_X6_bestOf rfl hdX6_bestOf rfl ⟨rfl, rfl⟩ ⟨Nat.le_of_ble_eq_true rfl, Nat.le_of_ble_eq_true rfl⟩ rfl [] rfl (Nat.le_of_ble_eq_true rfl) dX6_cryFor_29 ⟨Nat.zero_le _, Nat.zero_le _⟩) (fun H locs hP hS => ?_)
      obtain ⟨v_5, hv_5⟩ : ∃ zz, zz = asideM v := ⟨_, rfl⟩
      rw [← hv_5] at hP
      refine lv_goto (tgt := 40) C.1.1 C.1.2.1 dX6_cryFor_32 (by decide) ?_
      exact t_F C rfl hP hS (by (rw [cryForM]; rw [cif_pos ⟨jx, hjx, rfl⟩]; rw [cif_pos ⟨jy, hjy, rfl⟩]) <;> try simp only [fdM, upw_same, eq_self, if_true, if_false, ite_true, ite_false, ↓reduceIte, tn_nI (show jx < 2 ^ 31 by omega), tn_nI (show jy < 2 ^ 31 by omega), hv_5]) (by (rw [cryForM]; rw [cif_pos ⟨jx, hjx, rfl⟩]; rw [cif_pos ⟨jy, hjy, rfl⟩]) <;> try simp only [fdM, upw_same, eq_self, if_true, if_false, ite_true, ite_false, ↓reduceIte, tn_nI (show jx < 2 ^ 31 by omega), tn_nI (show jy < 2 ^ 31 by omega), hv_5]) dX6_cryFor_40
    · skip
      refine lv_if_eq (tgt := 35) C.1.1 C.1.2.1 dX6_cryFor_16 (by decide) (fun _ => ?_) (fun c_6 => absurd c_6 (by decide))
      refine lv_aload_n C.1.1 C.1.2.1 dX6_cryFor_35 rfl (lv_at hl 0 rfl) ?_
      refine lv_iconst (v := 0) C.1.1 C.1.2.1 dX6_cryFor_36 rfl ?_
      refine a_F hS (run_V C hP hS hl.1 53 6 (Nat.lt_of_lt_of_le (by decide) hn) rfl (by decide) rfl [.int 0] (kX6_finds l g n v 0 (by decide)) gX6_cryFor_X6_finds rfl hdX6_finds rfl ⟨rfl, rfl⟩ ⟨Nat.le_of_ble_eq_true rfl, Nat.le_of_ble_eq_true rfl⟩ rfl [] rfl (Nat.le_of_ble_eq_true rfl) dX6_cryFor_37 ⟨Nat.zero_le _, Nat.zero_le _⟩) (fun H locs hP hS => ?_)
      obtain ⟨v_7, hv_7⟩ : ∃ zz, zz = fnd v 0 := ⟨_, rfl⟩
      rw [← hv_7] at hP
      exact t_F C rfl hP hS (by (rw [cryForM]; rw [cif_pos ⟨jx, hjx, rfl⟩]; (try simp only [tn_nI (show jx < 2 ^ 31 by omega)]); rw [cif_neg b_3]) <;> try simp only [fdM, upw_same, eq_self, if_true, if_false, ite_true, ite_false, ↓reduceIte, tn_nI (show jx < 2 ^ 31 by omega), hv_7]) (by (rw [cryForM]; rw [cif_pos ⟨jx, hjx, rfl⟩]; (try simp only [tn_nI (show jx < 2 ^ 31 by omega)]); rw [cif_neg b_3]) <;> try simp only [fdM, upw_same, eq_self, if_true, if_false, ite_true, ite_false, ↓reduceIte, tn_nI (show jx < 2 ^ 31 by omega), hv_7]) dX6_cryFor_40
  · skip
    have b_1 := fun h => b_1 ((in_iff 6 (by decide) (by decide)).mpr h)
    refine lv_if_eq (tgt := 35) C.1.1 C.1.2.1 dX6_cryFor_9 (by decide) (fun _ => ?_) (fun c_8 => absurd c_8 (by decide))
    refine lv_aload_n C.1.1 C.1.2.1 dX6_cryFor_35 rfl (lv_at hl 0 rfl) ?_
    refine lv_iconst (v := 0) C.1.1 C.1.2.1 dX6_cryFor_36 rfl ?_
    refine a_F hS (run_V C hP hS hl.1 53 6 (Nat.lt_of_lt_of_le (by decide) hn) rfl (by decide) rfl [.int 0] (kX6_finds l g n v 0 (by decide)) gX6_cryFor_X6_finds rfl hdX6_finds rfl ⟨rfl, rfl⟩ ⟨Nat.le_of_ble_eq_true rfl, Nat.le_of_ble_eq_true rfl⟩ rfl [] rfl (Nat.le_of_ble_eq_true rfl) dX6_cryFor_37 ⟨Nat.zero_le _, Nat.zero_le _⟩) (fun H locs hP hS => ?_)
    obtain ⟨v_9, hv_9⟩ : ∃ zz, zz = fnd v 0 := ⟨_, rfl⟩
    rw [← hv_9] at hP
    exact t_F C rfl hP hS (by (rw [cryForM]; rw [cif_neg b_1]) <;> try simp only [fdM, upw_same, eq_self, if_true, if_false, ite_true, ite_false, ↓reduceIte, hv_9]) (by (rw [cryForM]; rw [cif_neg b_1]) <;> try simp only [fdM, upw_same, eq_self, if_true, if_false, ite_true, ite_false, ↓reduceIte, hv_9]) dX6_cryFor_40

abbrev rmX6_startFor : Room := { frames := 7, cells := 0, slots := 0, locals := 163 }
set_option maxHeartbeats 4000000 in
set_option maxRecDepth 100000 in
theorem kX6_startFor (l : Launch) (g : GG) (n : Nat) (v : SV) (x : Int32) (N : Nat) (hM : okM (v.1 54) N) : Met l yX6_startFor wsX6_startFor rmX6_startFor (PW g n v [.ref (gA g 53), .int x]) (QF g n ((startForM v x).1) ((startForM v x).2)) 0 0 (wA g n) := by
  refine Met.begin RX6 rfl (by decide) rfl (Nat.le_of_ble_eq_true rfl) ?_
  intro p e s m args below meth c ls ha C hP hS hl
  have hn : 64 ≤ n := C.2.1.1.2.1
  have hi6 : ∀ w ∈ u_ws RX6 TX6 17, w ∈ wsX6_startFor := by decide +kernel
  have hl : lv_has ls 2 [(0, .ref (gA g 53)), (1, .int x)] := hl
  have h8 := hM.1
  refine lv_iload_n C.1.1 C.1.2.1 dX6_startFor_0 rfl (lv_at hl 1 rfl) ?_
  refine a_B hS (run_S C hP hS hl.1 [.int x] (kX6_isShort l g n v x) gX6_startFor_X6_isShort hdX6_isShort rfl ⟨rfl, rfl⟩ ⟨Nat.le_of_ble_eq_true rfl, Nat.le_of_ble_eq_true rfl⟩ rfl [] rfl (Nat.le_of_ble_eq_true rfl) dX6_startFor_1 ⟨Nat.zero_le _, Nat.zero_le _⟩) (fun b_1 H locs hP hS => ?_) (fun b_1 H locs hP hS => ?_)
  · skip
    obtain ⟨jx, hjx, rfl⟩ := b_1
    refine lv_if_eq (tgt := 20) C.1.1 C.1.2.1 dX6_startFor_4 (by decide) (fun c_2 => absurd c_2 (by decide)) (fun _ => ?_)
    refine lv_aload_n C.1.1 C.1.2.1 dX6_startFor_7 rfl (lv_at hl 0 rfl) ?_
    refine lv_iconst (v := 3) C.1.1 C.1.2.1 dX6_startFor_8 rfl ?_
    refine lv_bipush (v := 15) C.1.1 C.1.2.1 dX6_startFor_9 rfl ?_
    refine lv_bipush (v := 6) C.1.1 C.1.2.1 dX6_startFor_11 rfl ?_
    refine lv_iload_n C.1.1 C.1.2.1 dX6_startFor_13 rfl (lv_at hl 1 rfl) ?_
    refine a_F hS (run_V C hP hS hl.1 53 6 (Nat.lt_of_lt_of_le (by decide) hn) rfl (by decide) rfl [.int 3, .int 15, .int 6, .int (nI jx)] (kX6_bestOf l g n v 3 15 6 jx (by omega) (by omega) (by omega) (by omega) N hM (fun i hi => okM_at hM (by decide) (Or.inl (by decide)))) gX6_startFor_X6_bestOf rfl hdX6_bestOf rfl ⟨rfl, rfl⟩ ⟨Nat.le_of_ble_eq_true rfl, Nat.le_of_ble_eq_true rfl⟩ rfl [] rfl (Nat.le_of_ble_eq_true rfl) dX6_startFor_14 ⟨Nat.zero_le _, Nat.zero_le _⟩) (fun H locs hP hS => ?_)
    obtain ⟨v_3, hv_3⟩ : ∃ zz, zz = asideM v := ⟨_, rfl⟩
    rw [← hv_3] at hP
    refine lv_goto (tgt := 25) C.1.1 C.1.2.1 dX6_startFor_17 (by decide) ?_
    exact t_F C rfl hP hS (by (rw [startForM]; rw [cif_pos ⟨jx, hjx, rfl⟩]) <;> try simp only [fdM, upw_same, eq_self, if_true, if_false, ite_true, ite_false, ↓reduceIte, tn_nI (show jx < 2 ^ 31 by omega), hv_3]) (by (rw [startForM]; rw [cif_pos ⟨jx, hjx, rfl⟩]) <;> try simp only [fdM, upw_same, eq_self, if_true, if_false, ite_true, ite_false, ↓reduceIte, tn_nI (show jx < 2 ^ 31 by omega), hv_3]) dX6_startFor_25
  · skip
    refine lv_if_eq (tgt := 20) C.1.1 C.1.2.1 dX6_startFor_4 (by decide) (fun _ => ?_) (fun c_4 => absurd c_4 (by decide))
    refine lv_aload_n C.1.1 C.1.2.1 dX6_startFor_20 rfl (lv_at hl 0 rfl) ?_
    refine lv_iconst (v := 0) C.1.1 C.1.2.1 dX6_startFor_21 rfl ?_
    refine a_F hS (run_V C hP hS hl.1 53 6 (Nat.lt_of_lt_of_le (by decide) hn) rfl (by decide) rfl [.int 0] (kX6_finds l g n v 0 (by decide)) gX6_startFor_X6_finds rfl hdX6_finds rfl ⟨rfl, rfl⟩ ⟨Nat.le_of_ble_eq_true rfl, Nat.le_of_ble_eq_true rfl⟩ rfl [] rfl (Nat.le_of_ble_eq_true rfl) dX6_startFor_22 ⟨Nat.zero_le _, Nat.zero_le _⟩) (fun H locs hP hS => ?_)
    obtain ⟨v_5, hv_5⟩ : ∃ zz, zz = fnd v 0 := ⟨_, rfl⟩
    rw [← hv_5] at hP
    exact t_F C rfl hP hS (by (rw [startForM]; rw [cif_neg b_1]) <;> try simp only [fdM, upw_same, eq_self, if_true, if_false, ite_true, ite_false, ↓reduceIte, hv_5]) (by (rw [startForM]; rw [cif_neg b_1]) <;> try simp only [fdM, upw_same, eq_self, if_true, if_false, ite_true, ite_false, ↓reduceIte, hv_5]) dX6_startFor_25

abbrev rmX6_kindFor : Room := { frames := 7, cells := 0, slots := 0, locals := 163 }
set_option maxHeartbeats 4000000 in
set_option maxRecDepth 100000 in
theorem kX6_kindFor (l : Launch) (g : GG) (n : Nat) (v : SV) (x y : Int32) (N : Nat) (hM : okM (v.1 54) N) : Met l yX6_kindFor wsX6_kindFor rmX6_kindFor (PW g n v [.ref (gA g 53), .int x, .int y]) (QF g n ((kindForM v x y).1) ((kindForM v x y).2)) 0 0 (wA g n) := by
  refine Met.begin RX6 rfl (by decide) rfl (Nat.le_of_ble_eq_true rfl) ?_
  intro p e s m args below meth c ls ha C hP hS hl
  have hn : 64 ≤ n := C.2.1.1.2.1
  have hi6 : ∀ w ∈ u_ws RX6 TX6 17, w ∈ wsX6_kindFor := by decide +kernel
  have hl : lv_has ls 3 [(0, .ref (gA g 53)), (1, .int x), (2, .int y)] := hl
  have h8 := hM.1
  refine lv_aload_n C.1.1 C.1.2.1 dX6_kindFor_0 rfl (lv_at hl 0 rfl) ?_
  refine lv_iload_n C.1.1 C.1.2.1 dX6_kindFor_1 rfl (lv_at hl 1 rfl) ?_
  refine a_B hS (run_V C hP hS hl.1 53 6 (Nat.lt_of_lt_of_le (by decide) hn) rfl (by decide) rfl [.int x] (kX6_isResident l g n v x N hM) gX6_kindFor_X6_isResident rfl hdX6_isResident rfl ⟨rfl, rfl⟩ ⟨Nat.le_of_ble_eq_true rfl, Nat.le_of_ble_eq_true rfl⟩ rfl [] rfl (Nat.le_of_ble_eq_true rfl) dX6_kindFor_2 ⟨Nat.zero_le _, Nat.zero_le _⟩) (fun b_1 H locs hP hS => ?_) (fun b_1 H locs hP hS => ?_)
  · skip
    obtain ⟨jx, hjx, rfl⟩ := b_1
    refine lv_if_eq (tgt := 33) C.1.1 C.1.2.1 dX6_kindFor_5 (by decide) (fun c_2 => absurd c_2 (by decide)) (fun _ => ?_)
    refine lv_iload_n C.1.1 C.1.2.1 dX6_kindFor_8 rfl (lv_at hl 2 rfl) ?_
    refine a_B hS (run_S C hP hS hl.1 [.int y] (kX6_isShort l g n v y) gX6_kindFor_X6_isShort hdX6_isShort rfl ⟨rfl, rfl⟩ ⟨Nat.le_of_ble_eq_true rfl, Nat.le_of_ble_eq_true rfl⟩ rfl [] rfl (Nat.le_of_ble_eq_true rfl) dX6_kindFor_9 ⟨Nat.zero_le _, Nat.zero_le _⟩) (fun b_3 H locs hP hS => ?_) (fun b_3 H locs hP hS => ?_)
    · skip
      obtain ⟨jy, hjy, rfl⟩ := b_3
      refine lv_if_eq (tgt := 33) C.1.1 C.1.2.1 dX6_kindFor_12 (by decide) (fun c_4 => absurd c_4 (by decide)) (fun _ => ?_)
      refine lv_aload_n C.1.1 C.1.2.1 dX6_kindFor_15 rfl (lv_at hl 0 rfl) ?_
      refine lv_bipush (v := 25) C.1.1 C.1.2.1 dX6_kindFor_16 rfl ?_
      refine lv_iload_n C.1.1 C.1.2.1 dX6_kindFor_18 rfl (lv_at hl 1 rfl) ?_
      refine lv_iadd C.1.1 C.1.2.1 dX6_kindFor_19 ?_
      refine lv_topE (nI (25 + jx)) (nI_add 25 jx) ?_
      refine lv_bipush (v := 6) C.1.1 C.1.2.1 dX6_kindFor_20 rfl ?_
      refine lv_bipush (v := 57) C.1.1 C.1.2.1 dX6_kindFor_22 rfl ?_
      refine lv_iload_n C.1.1 C.1.2.1 dX6_kindFor_24 rfl (lv_at hl 1 rfl) ?_
      refine lv_iadd C.1.1 C.1.2.1 dX6_kindFor_25 ?_
      refine lv_topE (nI (57 + jx)) (nI_add 57 jx) ?_
      refine lv_iload_n C.1.1 C.1.2.1 dX6_kindFor_26 rfl (lv_at hl 2 rfl) ?_
      refine a_F hS (run_V C hP hS hl.1 53 6 (Nat.lt_of_lt_of_le (by decide) hn) rfl (by decide) rfl [.int (nI (25 + jx)), .int 6, .int (nI (57 + jx)), .int (nI jy)] (kX6_bestOf l g n v (25 + jx) 6 (57 + jx) jy (by omega) (by omega) (by omega) (by omega) N hM (fun i hi => okM_at hM (by omega) (Or.inr (by omega)))) gX6_kindFor_X6_bestOf rfl hdX6_bestOf rfl ⟨rfl, rfl⟩ ⟨Nat.le_of_ble_eq_true rfl, Nat.le_of_ble_eq_true rfl⟩ rfl [] rfl (Nat.le_of_ble_eq_true rfl) dX6_kindFor_27 ⟨Nat.zero_le _, Nat.zero_le _⟩) (fun H locs hP hS => ?_)
      obtain ⟨v_5, hv_5⟩ : ∃ zz, zz = asideM v := ⟨_, rfl⟩
      rw [← hv_5] at hP
      refine lv_goto (tgt := 38) C.1.1 C.1.2.1 dX6_kindFor_30 (by decide) ?_
      exact t_F C rfl hP hS (by (rw [kindForM, nM_eq hM]; rw [cif_pos ⟨jx, hjx, rfl⟩]; rw [cif_pos ⟨jy, hjy, rfl⟩]) <;> try simp only [fdM, upw_same, eq_self, if_true, if_false, ite_true, ite_false, ↓reduceIte, tn_nI (show jx < 2 ^ 31 by omega), tn_nI (show jy < 2 ^ 31 by omega), hv_5, nM_eq hM]) (by (rw [kindForM, nM_eq hM]; rw [cif_pos ⟨jx, hjx, rfl⟩]; rw [cif_pos ⟨jy, hjy, rfl⟩]) <;> try simp only [fdM, upw_same, eq_self, if_true, if_false, ite_true, ite_false, ↓reduceIte, tn_nI (show jx < 2 ^ 31 by omega), tn_nI (show jy < 2 ^ 31 by omega), hv_5, nM_eq hM]) dX6_kindFor_38
    · skip
      refine lv_if_eq (tgt := 33) C.1.1 C.1.2.1 dX6_kindFor_12 (by decide) (fun _ => ?_) (fun c_6 => absurd c_6 (by decide))
      refine lv_aload_n C.1.1 C.1.2.1 dX6_kindFor_33 rfl (lv_at hl 0 rfl) ?_
      refine lv_iconst (v := 0) C.1.1 C.1.2.1 dX6_kindFor_34 rfl ?_
      refine a_F hS (run_V C hP hS hl.1 53 6 (Nat.lt_of_lt_of_le (by decide) hn) rfl (by decide) rfl [.int 0] (kX6_finds l g n v 0 (by decide)) gX6_kindFor_X6_finds rfl hdX6_finds rfl ⟨rfl, rfl⟩ ⟨Nat.le_of_ble_eq_true rfl, Nat.le_of_ble_eq_true rfl⟩ rfl [] rfl (Nat.le_of_ble_eq_true rfl) dX6_kindFor_35 ⟨Nat.zero_le _, Nat.zero_le _⟩) (fun H locs hP hS => ?_)
      obtain ⟨v_7, hv_7⟩ : ∃ zz, zz = fnd v 0 := ⟨_, rfl⟩
      rw [← hv_7] at hP
      exact t_F C rfl hP hS (by (rw [kindForM, nM_eq hM]; rw [cif_pos ⟨jx, hjx, rfl⟩]; (try simp only [tn_nI (show jx < 2 ^ 31 by omega)]); rw [cif_neg b_3]) <;> try simp only [fdM, upw_same, eq_self, if_true, if_false, ite_true, ite_false, ↓reduceIte, tn_nI (show jx < 2 ^ 31 by omega), hv_7, nM_eq hM]) (by (rw [kindForM, nM_eq hM]; rw [cif_pos ⟨jx, hjx, rfl⟩]; (try simp only [tn_nI (show jx < 2 ^ 31 by omega)]); rw [cif_neg b_3]) <;> try simp only [fdM, upw_same, eq_self, if_true, if_false, ite_true, ite_false, ↓reduceIte, tn_nI (show jx < 2 ^ 31 by omega), hv_7, nM_eq hM]) dX6_kindFor_38
  · skip
    refine lv_if_eq (tgt := 33) C.1.1 C.1.2.1 dX6_kindFor_5 (by decide) (fun _ => ?_) (fun c_8 => absurd c_8 (by decide))
    refine lv_aload_n C.1.1 C.1.2.1 dX6_kindFor_33 rfl (lv_at hl 0 rfl) ?_
    refine lv_iconst (v := 0) C.1.1 C.1.2.1 dX6_kindFor_34 rfl ?_
    refine a_F hS (run_V C hP hS hl.1 53 6 (Nat.lt_of_lt_of_le (by decide) hn) rfl (by decide) rfl [.int 0] (kX6_finds l g n v 0 (by decide)) gX6_kindFor_X6_finds rfl hdX6_finds rfl ⟨rfl, rfl⟩ ⟨Nat.le_of_ble_eq_true rfl, Nat.le_of_ble_eq_true rfl⟩ rfl [] rfl (Nat.le_of_ble_eq_true rfl) dX6_kindFor_35 ⟨Nat.zero_le _, Nat.zero_le _⟩) (fun H locs hP hS => ?_)
    obtain ⟨v_9, hv_9⟩ : ∃ zz, zz = fnd v 0 := ⟨_, rfl⟩
    rw [← hv_9] at hP
    exact t_F C rfl hP hS (by (rw [kindForM, nM_eq hM]; rw [cif_neg b_1]) <;> try simp only [fdM, upw_same, eq_self, if_true, if_false, ite_true, ite_false, ↓reduceIte, hv_9, nM_eq hM]) (by (rw [kindForM, nM_eq hM]; rw [cif_neg b_1]) <;> try simp only [fdM, upw_same, eq_self, if_true, if_false, ite_true, ite_false, ↓reduceIte, hv_9, nM_eq hM]) dX6_kindFor_38

abbrev rmX6_loudFor : Room := { frames := 6, cells := 0, slots := 0, locals := 135 }
set_option maxHeartbeats 4000000 in
set_option maxRecDepth 100000 in
theorem kX6_loudFor (l : Launch) (g : GG) (n : Nat) (v : SV) (x y : Int32) (N : Nat) (hM : okM (v.1 54) N) : Met l yX6_loudFor wsX6_loudFor rmX6_loudFor (PW g n v [.ref (gA g 53), .int x, .int y]) (QF g n ((loudForM v x y).1) ((loudForM v x y).2)) 0 0 (wA g n) := by
  refine Met.begin RX6 rfl (by decide) rfl (Nat.le_of_ble_eq_true rfl) ?_
  intro p e s m args below meth c ls ha C hP hS hl
  have hn : 64 ≤ n := C.2.1.1.2.1
  have hi6 : ∀ w ∈ u_ws RX6 TX6 17, w ∈ wsX6_loudFor := by decide +kernel
  have hl : lv_has ls 4 [(0, .ref (gA g 53)), (1, .int x), (2, .int y)] := hl
  have h8 := hM.1
  refine lv_iload_n C.1.1 C.1.2.1 dX6_loudFor_0 rfl (lv_at hl 1 rfl) ?_
  refine lv_i2l (v := x.toInt64) C.1.1 C.1.2.1 dX6_loudFor_1 rfl ?_
  refine lv_lconst (v := 0) C.1.1 C.1.2.1 dX6_loudFor_2 rfl ?_
  refine lv_ldc2 (v := 99999) C.1.1 C.1.2.1 C.1.2.2.2.1 (C.1.2.2.2.2 _ (List.mem_of_getElem? (i := 1) rfl)) dX6_loudFor_3 ?_
  refine a_B hS (run_S C hP hS hl.1 [.long x.toInt64, .long 0, .long 99999] (kX6_in l g n v x.toInt64 0 99999) gX6_loudFor_X6_in hdX6_in rfl ⟨rfl, rfl⟩ ⟨Nat.le_of_ble_eq_true rfl, Nat.le_of_ble_eq_true rfl⟩ rfl [] rfl (Nat.le_of_ble_eq_true rfl) dX6_loudFor_6 ⟨Nat.zero_le _, Nat.zero_le _⟩) (fun b_1 H locs hP hS => ?_) (fun b_1 H locs hP hS => ?_)
  · skip
    have b_1 := (in_iff 100000 (by decide) (by decide)).mp b_1
    obtain ⟨jx, hjx, rfl⟩ := b_1
    refine lv_if_eq (tgt := 19) C.1.1 C.1.2.1 dX6_loudFor_9 (by decide) (fun c_2 => absurd c_2 (by decide)) (fun _ => ?_)
    refine lv_iload_n C.1.1 C.1.2.1 dX6_loudFor_12 rfl (lv_at hl 2 rfl) ?_
    refine a_B hS (run_S C hP hS hl.1 [.int y] (kX6_isShort l g n v y) gX6_loudFor_X6_isShort hdX6_isShort rfl ⟨rfl, rfl⟩ ⟨Nat.le_of_ble_eq_true rfl, Nat.le_of_ble_eq_true rfl⟩ rfl [] rfl (Nat.le_of_ble_eq_true rfl) dX6_loudFor_13 ⟨Nat.zero_le _, Nat.zero_le _⟩) (fun b_3 H locs hP hS => ?_) (fun b_3 H locs hP hS => ?_)
    · skip
      obtain ⟨jy, hjy, rfl⟩ := b_3
      refine lv_if_ne (tgt := 25) C.1.1 C.1.2.1 dX6_loudFor_16 (by decide) (fun _ => ?_) (fun c_4 => absurd c_4 (by decide))
      refine lv_aload_n C.1.1 C.1.2.1 dX6_loudFor_25 rfl (lv_at hl 0 rfl) ?_
      refine r_get C hP 53 6 (Nat.lt_of_lt_of_le (by decide) hn) rfl (by decide) rfl hi6 0 (by decide) (List.mem_of_getElem? (i := 2) rfl) rfl (val := .ref (gA g 54)) rfl dX6_loudFor_26 ?_
      refine lv_aload_n C.1.1 C.1.2.1 dX6_loudFor_29 rfl (lv_at hl 0 rfl) ?_
      refine r_get C hP 53 6 (Nat.lt_of_lt_of_le (by decide) hn) rfl (by decide) rfl hi6 2 (by decide) (List.mem_of_getElem? (i := 3) rfl) rfl (val := .ref (gA g 56)) rfl dX6_loudFor_30 ?_
      refine a_G hS (run_S C hP hS hl.1 [.ref (gA g 54), .ref (gA g 56)] (kX6_copies l g n v 54 56 (by decide) (by decide) (by decide)) gX6_loudFor_X6_copies hdX6_copies rfl ⟨rfl, rfl⟩ ⟨Nat.le_of_ble_eq_true rfl, Nat.le_of_ble_eq_true rfl⟩ rfl [] rfl (Nat.le_of_ble_eq_true rfl) dX6_loudFor_33 ⟨Nat.zero_le _, Nat.zero_le _⟩) (fun H locs hP hS => ?_)
      obtain ⟨v_5, hv_5⟩ : ∃ zz, zz = upw v 56 (cpyM (v.1 54) (v.1 56) 83) := ⟨_, rfl⟩
      rw [← hv_5] at hP
      rw [show v_5 = asideM v from hv_5] at hP
      refine lv_iconst (v := 0) C.1.1 C.1.2.1 dX6_loudFor_36 rfl ?_
      refine lv_istore_n (lv' := [(3, .int 0), (0, .ref (gA g 53)), (1, .int (nI jx)), (2, .int (nI jy))]) C.1.1 C.1.2.1 dX6_loudFor_37 rfl hl (by decide) rfl (fun ls hl => ?_)
      have lp_38 : ∀ (k_38 i : Nat), i ≤ 10 → 10 + 1 ≤ i + k_38 → ∀ (H : Heap) (locs : List Loc) (ls : Array Slot), (∀ t, t < i → ¬ nI jx ≤ daysM (upd (v.1 54) 5 (nI t)) jy 6) → va_P g.1 vwCl (wl g n (asideM v)) H → va_S (wA g n) s.heap H locs → lv_has ls 4 [(0, .ref (gA g 53)), (1, .int (nI jx)), (2, .int (nI jy)), (3, .int (nI i))] → W p l e rmX6_loudFor s m args below meth c H locs 0 0 (MQ below (QF g n ((loudForM v (nI jx) (nI jy)).1) ((loudForM v (nI jx) (nI jy)).2)) args s 0 0 (wA g n)) (F0 m 38 ls []) := by
        clear hP hS hl
        intro k_38
        induction k_38 with
        | zero => exact fun i h1 h2 => absurd h2 (by omega)
        | succ k_38 ih_38 =>
          intro i hi_38 hk_38 H locs ls hno hP hS hl
          refine lv_iload_n C.1.1 C.1.2.1 dX6_loudFor_38 rfl (lv_at hl 3 rfl) ?_
          refine lv_bipush (v := 10) C.1.1 C.1.2.1 dX6_loudFor_39 rfl ?_
          refine lv_icmp_ge (tgt := 70) C.1.1 C.1.2.1 dX6_loudFor_41 (by decide) (fun c_6 => ?_) (fun c_6 => ?_)
          · rw [show (10 ≤ nI i) = (10 ≤ i) from propext (nI_leI (a := 10) (b := i) (by omega) (by omega))] at c_6
            have hi10 : i = 10 := by omega
            refine lv_aload_n C.1.1 C.1.2.1 dX6_loudFor_70 rfl (lv_at hl 0 rfl) ?_
            refine lv_iconst (v := 3) C.1.1 C.1.2.1 dX6_loudFor_71 rfl ?_
            refine a_F hS (run_V C hP hS hl.1 53 6 (Nat.lt_of_lt_of_le (by decide) hn) rfl (by decide) rfl [.int 3] (kX6_finds l g n (asideM v) 3 (by decide)) gX6_loudFor_X6_finds rfl hdX6_finds rfl ⟨rfl, rfl⟩ ⟨Nat.le_of_ble_eq_true rfl, Nat.le_of_ble_eq_true rfl⟩ rfl [] rfl (Nat.le_of_ble_eq_true rfl) dX6_loudFor_72 ⟨Nat.zero_le _, Nat.zero_le _⟩) (fun H locs hP hS => ?_)
            obtain ⟨v_7, hv_7⟩ : ∃ zz, zz = fnd (asideM v) 3 := ⟨_, rfl⟩
            rw [← hv_7] at hP
            exact t_F C rfl hP hS (by rw [loudForM, cif_pos ⟨jx, hjx, rfl⟩, cif_pos ⟨jy, hjy, rfl⟩, tn_nI (show jy < 2 ^ 31 by omega), lk_no 10 0 (fun t _ b => hno t (by omega)), if_neg (by omega)]; rfl) (by rw [loudForM, cif_pos ⟨jx, hjx, rfl⟩, cif_pos ⟨jy, hjy, rfl⟩, tn_nI (show jy < 2 ^ 31 by omega), lk_no 10 0 (fun t _ b => hno t (by omega)), if_neg (by omega), hv_7]; rfl) dX6_loudFor_75
          · rw [show (10 ≤ nI i) = (10 ≤ i) from propext (nI_leI (a := 10) (b := i) (by omega) (by omega))] at c_6
            refine lv_aload_n C.1.1 C.1.2.1 dX6_loudFor_44 rfl (lv_at hl 0 rfl) ?_
            refine r_get C hP 53 6 (Nat.lt_of_lt_of_le (by decide) hn) rfl (by decide) rfl hi6 0 (by decide) (List.mem_of_getElem? (i := 2) rfl) rfl (val := .ref (gA g 54)) rfl dX6_loudFor_45 ?_
            refine lv_iconst (v := 5) C.1.1 C.1.2.1 dX6_loudFor_48 rfl ?_
            refine lv_iload_n C.1.1 C.1.2.1 dX6_loudFor_49 rfl (lv_at hl 3 rfl) ?_
            refine r_iast C hP hS 54 (Nat.lt_of_lt_of_le (by decide) hn) rfl 5 rfl (N := 83) rfl (by decide) (by omega) dX6_loudFor_50 (fun H locs hP hS => ?_)
            obtain ⟨v_8, hv_8⟩ : ∃ zz, zz = up (asideM v) 54 5 (nI i) := ⟨_, rfl⟩
            rw [← hv_8] at hP
            rw [show v_8 = upw (asideM v) 54 (upd (v.1 54) 5 (nI i)) from by rw [hv_8]; show upw (asideM v) 54 (upd ((asideM v).1 54) 5 (nI i)) = _; rw [asideM_54]] at hP
            refine lv_aload_n C.1.1 C.1.2.1 dX6_loudFor_51 rfl (lv_at hl 0 rfl) ?_
            refine lv_iload_n C.1.1 C.1.2.1 dX6_loudFor_52 rfl (lv_at hl 2 rfl) ?_
            refine lv_bipush (v := 6) C.1.1 C.1.2.1 dX6_loudFor_53 rfl ?_
            refine a_F hS (run_V C hP hS hl.1 53 6 (Nat.lt_of_lt_of_le (by decide) hn) rfl (by decide) rfl [.int (nI jy), .int 6] (kX6_behind l g n (upw (asideM v) 54 (upd (v.1 54) 5 (nI i))) jy 6 (by omega) (by omega) N (by rw [upw_same]; exact okM_at hM (by decide) (Or.inl (by decide)))) gX6_loudFor_X6_behind rfl hdX6_behind rfl ⟨rfl, rfl⟩ ⟨Nat.le_of_ble_eq_true rfl, Nat.le_of_ble_eq_true rfl⟩ rfl [] rfl (Nat.le_of_ble_eq_true rfl) dX6_loudFor_55 ⟨Nat.zero_le _, Nat.zero_le _⟩) (fun H locs hP hS => ?_)
            obtain ⟨v_9, hv_9⟩ : ∃ zz, zz = upw (upw (asideM v) 54 (upd (v.1 54) 5 (nI i))) 54 (cpyM ((upw (asideM v) 54 (upd (v.1 54) 5 (nI i))).1 56) (daysM ((upw (asideM v) 54 (upd (v.1 54) 5 (nI i))).1 54) jy) 83) := ⟨_, rfl⟩
            rw [← hv_9] at hP
            refine lv_topE (daysM (upd (v.1 54) 5 (nI i)) jy 6) (by rw [upw_same]) ?_
            rw [show v_9 = asideM v from by rw [hv_9]; exact restoreC (fun j hj => by rw [daysM_hi (okM_at hM (by decide) (Or.inl (by decide))) hj]; simp only [upd]; rw [if_neg (by omega)])] at hP
            refine lv_iload_n C.1.1 C.1.2.1 dX6_loudFor_58 rfl (lv_at hl 1 rfl) ?_
            refine lv_icmp_lt (tgt := 64) C.1.1 C.1.2.1 dX6_loudFor_59 (by decide) (fun c_10 => ?_) (fun c_10 => ?_)
            · skip
              refine lv_iinc (v := nI (i + 1)) (lv' := [(3, .int (nI (i + 1))), (0, .ref (gA g 53)), (1, .int (nI jx)), (2, .int (nI jy))]) C.1.1 C.1.2.1 dX6_loudFor_64 hl (k := 3) rfl (nI_1 i) (by decide) rfl (fun ls hl => ?_)
              refine lv_goto (tgt := 38) C.1.1 C.1.2.1 dX6_loudFor_67 (by decide) ?_
              exact ih_38 (i + 1) (by omega) (by omega) _ _ _ (fun t ht => if h9 : t < i then hno t h9 else by rw [show t = i by omega]; exact fa_lt_nle c_10) hP hS (lv_sub hl [1, 2, 3, 0] rfl)
            · skip
              refine lv_iload_n C.1.1 C.1.2.1 dX6_loudFor_62 rfl (lv_at hl 3 rfl) ?_
              exact t_F C rfl hP hS (by rw [loudForM, cif_pos ⟨jx, hjx, rfl⟩, cif_pos ⟨jy, hjy, rfl⟩, tn_nI (show jy < 2 ^ 31 by omega), lk_yes 10 0 i (Nat.zero_le _) (by omega) (fun t _ b => hno t b) (fa_nlt c_10), if_pos (by omega)]) (by rw [loudForM, cif_pos ⟨jx, hjx, rfl⟩, cif_pos ⟨jy, hjy, rfl⟩, tn_nI (show jy < 2 ^ 31 by omega), lk_yes 10 0 i (Nat.zero_le _) (by omega) (fun t _ b => hno t b) (fa_nlt c_10), if_pos (by omega)]) dX6_loudFor_63
      exact lp_38 (10 + 1) 0 (Nat.zero_le _) (by omega) _ _ _ (fun t ht => absurd ht (Nat.not_lt_zero t)) hP hS (lv_sub hl [1, 2, 3, 0] rfl)
    · skip
      refine lv_if_ne (tgt := 25) C.1.1 C.1.2.1 dX6_loudFor_16 (by decide) (fun c_11 => absurd c_11 (by decide)) (fun _ => ?_)
      refine lv_aload_n C.1.1 C.1.2.1 dX6_loudFor_19 rfl (lv_at hl 0 rfl) ?_
      refine lv_iconst (v := 0) C.1.1 C.1.2.1 dX6_loudFor_20 rfl ?_
      refine a_F hS (run_V C hP hS hl.1 53 6 (Nat.lt_of_lt_of_le (by decide) hn) rfl (by decide) rfl [.int 0] (kX6_finds l g n v 0 (by decide)) gX6_loudFor_X6_finds rfl hdX6_finds rfl ⟨rfl, rfl⟩ ⟨Nat.le_of_ble_eq_true rfl, Nat.le_of_ble_eq_true rfl⟩ rfl [] rfl (Nat.le_of_ble_eq_true rfl) dX6_loudFor_21 ⟨Nat.zero_le _, Nat.zero_le _⟩) (fun H locs hP hS => ?_)
      obtain ⟨v_12, hv_12⟩ : ∃ zz, zz = fnd v 0 := ⟨_, rfl⟩
      rw [← hv_12] at hP
      exact t_F C rfl hP hS (by (rw [loudForM]; rw [cif_pos ⟨jx, hjx, rfl⟩]; (try simp only [tn_nI (show jx < 2 ^ 31 by omega)]); rw [cif_neg b_3]) <;> try simp only [fdM, upw_same, eq_self, if_true, if_false, ite_true, ite_false, ↓reduceIte, tn_nI (show jx < 2 ^ 31 by omega), hv_12]) (by (rw [loudForM]; rw [cif_pos ⟨jx, hjx, rfl⟩]; (try simp only [tn_nI (show jx < 2 ^ 31 by omega)]); rw [cif_neg b_3]) <;> try simp only [fdM, upw_same, eq_self, if_true, if_false, ite_true, ite_false, ↓reduceIte, tn_nI (show jx < 2 ^ 31 by omega), hv_12]) dX6_loudFor_24
  · skip
    have b_1 := fun h => b_1 ((in_iff 100000 (by decide) (by decide)).mpr h)
    refine lv_if_eq (tgt := 19) C.1.1 C.1.2.1 dX6_loudFor_9 (by decide) (fun _ => ?_) (fun c_13 => absurd c_13 (by decide))
    refine lv_aload_n C.1.1 C.1.2.1 dX6_loudFor_19 rfl (lv_at hl 0 rfl) ?_
    refine lv_iconst (v := 0) C.1.1 C.1.2.1 dX6_loudFor_20 rfl ?_
    refine a_F hS (run_V C hP hS hl.1 53 6 (Nat.lt_of_lt_of_le (by decide) hn) rfl (by decide) rfl [.int 0] (kX6_finds l g n v 0 (by decide)) gX6_loudFor_X6_finds rfl hdX6_finds rfl ⟨rfl, rfl⟩ ⟨Nat.le_of_ble_eq_true rfl, Nat.le_of_ble_eq_true rfl⟩ rfl [] rfl (Nat.le_of_ble_eq_true rfl) dX6_loudFor_21 ⟨Nat.zero_le _, Nat.zero_le _⟩) (fun H locs hP hS => ?_)
    obtain ⟨v_14, hv_14⟩ : ∃ zz, zz = fnd v 0 := ⟨_, rfl⟩
    rw [← hv_14] at hP
    exact t_F C rfl hP hS (by (rw [loudForM]; rw [cif_neg b_1]) <;> try simp only [fdM, upw_same, eq_self, if_true, if_false, ite_true, ite_false, ↓reduceIte, hv_14]) (by (rw [loudForM]; rw [cif_neg b_1]) <;> try simp only [fdM, upw_same, eq_self, if_true, if_false, ite_true, ite_false, ↓reduceIte, hv_14]) dX6_loudFor_24

