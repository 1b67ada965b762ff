abbrev rmX6_hold : Room := { frames := 1, cells := 0, slots := 0, locals := 25 }
set_option maxHeartbeats 4000000 in
set_option maxRecDepth 100000 in
theorem kX6_hold (l : Launch) (g : GG) (n : Nat) (v : SV) (x y : Int32) (N : Nat) (hM : okM (v.1 54) N) : Met l yX6_hold wsX6_hold rmX6_hold (PW g n v [.ref (gA g 53), .int x, .int y]) (QF g n ((holdPM v x y).1) ((holdPM v x y).2)) 0 0 (wA g n) := by
  refine Met.begin RX6 rfl (by decide) rfl (Nat.le_of_ble_eq_true rfl) ?_
  intro p e s m args below meth c ls ha C hP hS hl
  have hn : 64 ≤ n := C.2.1.1.2.1
  have hi6 : ∀ w ∈ u_ws RX6 TX6 17, w ∈ wsX6_hold := by decide +kernel
  have hl : lv_has ls 3 [(0, .ref (gA g 53)), (1, .int x), (2, .int y)] := hl
  have h8 := hM.1
  refine lv_iload_n C.1.1 C.1.2.1 dX6_hold_0 rfl (lv_at hl 1 rfl) ?_
  refine lv_i2l (v := x.toInt64) C.1.1 C.1.2.1 dX6_hold_1 rfl ?_
  refine lv_lconst (v := 0) C.1.1 C.1.2.1 dX6_hold_2 rfl ?_
  refine lv_ldc2 (v := 9) C.1.1 C.1.2.1 C.1.2.2.2.1 (C.1.2.2.2.2 _ (List.mem_of_getElem? (i := 1) rfl)) dX6_hold_3 ?_
  refine a_B hS (run_S C hP hS hl.1 [.long x.toInt64, .long 0, .long 9] (kX6_in l g n v x.toInt64 0 9) gX6_hold_X6_in hdX6_in rfl ⟨rfl, rfl⟩ ⟨Nat.le_of_ble_eq_true rfl, Nat.le_of_ble_eq_true rfl⟩ rfl [] rfl (Nat.le_of_ble_eq_true rfl) dX6_hold_6 ⟨Nat.zero_le _, Nat.zero_le _⟩) (fun b_1 H locs hP hS => ?_) (fun b_1 H locs hP hS => ?_)
  · skip
    have b_1 := (in_iff 10 (by decide) (by decide)).mp b_1
    obtain ⟨jx, hjx, rfl⟩ := b_1
    refine lv_if_eq (tgt := 32) C.1.1 C.1.2.1 dX6_hold_9 (by decide) (fun c_2 => absurd c_2 (by decide)) (fun _ => ?_)
    refine lv_iload_n C.1.1 C.1.2.1 dX6_hold_12 rfl (lv_at hl 2 rfl) ?_
    refine lv_i2l (v := y.toInt64) C.1.1 C.1.2.1 dX6_hold_13 rfl ?_
    refine lv_ldc2 (v := (-1)) C.1.1 C.1.2.1 C.1.2.2.2.1 (C.1.2.2.2.2 _ (List.mem_of_getElem? (i := 2) rfl)) dX6_hold_14 ?_
    refine lv_aload_n C.1.1 C.1.2.1 dX6_hold_17 rfl (lv_at hl 0 rfl) ?_
    refine r_get C hP 53 6 (Nat.lt_of_lt_of_le (by decide) hn) rfl (by decide) rfl hi6 0 (by decide) (List.mem_of_getElem? (i := 3) rfl) rfl (val := .ref (gA g 54)) rfl dX6_hold_18 ?_
    refine lv_iconst (v := 0) C.1.1 C.1.2.1 dX6_hold_21 rfl ?_
    refine r_iald C hP 54 (Nat.lt_of_lt_of_le (by decide) hn) rfl 0 rfl (N := 83) rfl (by decide) (by omega) dX6_hold_22 ?_
    refine lv_topE (nI N) hM.2.1 ?_
    refine lv_iconst (v := 1) C.1.1 C.1.2.1 dX6_hold_23 rfl ?_
    refine lv_isub C.1.1 C.1.2.1 dX6_hold_24 ?_
    refine lv_i2l (v := ((nI N) - 1).toInt64) C.1.1 C.1.2.1 dX6_hold_25 rfl ?_
    refine a_B hS (run_S C hP hS hl.1 [.long y.toInt64, .long (-1), .long (((nI N) - 1).toInt64)] (kX6_in l g n v y.toInt64 (-1) (((nI N) - 1).toInt64)) gX6_hold_X6_in hdX6_in rfl ⟨rfl, rfl⟩ ⟨Nat.le_of_ble_eq_true rfl, Nat.le_of_ble_eq_true rfl⟩ rfl [] rfl (Nat.le_of_ble_eq_true rfl) dX6_hold_26 ⟨Nat.zero_le _, Nat.zero_le _⟩) (fun b_3 H locs hP hS => ?_) (fun b_3 H locs hP hS => ?_)
    · skip
      refine lv_if_ne (tgt := 38) C.1.1 C.1.2.1 dX6_hold_29 (by decide) (fun _ => ?_) (fun c_4 => absurd c_4 (by decide))
      refine lv_aload_n C.1.1 C.1.2.1 dX6_hold_38 rfl (lv_at hl 0 rfl) ?_
      refine r_get C hP 53 6 (Nat.lt_of_lt_of_le (by decide) hn) rfl (by decide) rfl hi6 0 (by decide) (List.mem_of_getElem? (i := 3) rfl) rfl (val := .ref (gA g 54)) rfl dX6_hold_39 ?_
      refine lv_bipush (v := 73) C.1.1 C.1.2.1 dX6_hold_42 rfl ?_
      refine lv_iload_n C.1.1 C.1.2.1 dX6_hold_44 rfl (lv_at hl 1 rfl) ?_
      refine lv_iadd C.1.1 C.1.2.1 dX6_hold_45 ?_
      refine lv_topE (nI (73 + jx)) (nI_add 73 jx) ?_
      refine lv_iload_n C.1.1 C.1.2.1 dX6_hold_46 rfl (lv_at hl 2 rfl) ?_
      refine lv_iconst (v := 1) C.1.1 C.1.2.1 dX6_hold_47 rfl ?_
      refine lv_iadd C.1.1 C.1.2.1 dX6_hold_48 ?_
      refine r_iast C hP hS 54 (Nat.lt_of_lt_of_le (by decide) hn) rfl (73 + jx) rfl (N := 83) rfl (by decide) (by omega) dX6_hold_49 (fun H locs hP hS => ?_)
      obtain ⟨v_5, hv_5⟩ : ∃ zz, zz = up v 54 (73 + jx) (y + 1) := ⟨_, rfl⟩
      rw [← hv_5] at hP
      refine lv_iconst (v := 1) C.1.1 C.1.2.1 dX6_hold_50 rfl ?_
      exact t_F C rfl hP hS (by (rw [holdPM, nM_eq hM]; rw [cif_pos ⟨jx, hjx, rfl⟩]; (try simp only [tn_nI (show jx < 2 ^ 31 by omega)]); rw [cif_pos b_3]) <;> try simp only [fdM, upw_same, eq_self, if_true, if_false, ite_true, ite_false, ↓reduceIte, tn_nI (show jx < 2 ^ 31 by omega), hv_5, nM_eq hM]) (by (rw [holdPM, nM_eq hM]; rw [cif_pos ⟨jx, hjx, rfl⟩]; (try simp only [tn_nI (show jx < 2 ^ 31 by omega)]); rw [cif_pos b_3]) <;> try simp only [fdM, upw_same, eq_self, if_true, if_false, ite_true, ite_false, ↓reduceIte, tn_nI (show jx < 2 ^ 31 by omega), hv_5, nM_eq hM]) dX6_hold_51
    · skip
      refine lv_if_ne (tgt := 38) C.1.1 C.1.2.1 dX6_hold_29 (by decide) (fun c_6 => absurd c_6 (by decide)) (fun _ => ?_)
      refine lv_aload_n C.1.1 C.1.2.1 dX6_hold_32 rfl (lv_at hl 0 rfl) ?_
      refine lv_iconst (v := 0) C.1.1 C.1.2.1 dX6_hold_33 rfl ?_
      refine a_F hS (run_V C hP hS hl.1 53 6 (Nat.lt_of_lt_of_le (by decide) hn) rfl (by decide) rfl [.int 0] (kX6_finds l g n v 0 (by decide)) gX6_hold_X6_finds rfl hdX6_finds rfl ⟨rfl, rfl⟩ ⟨Nat.le_of_ble_eq_true rfl, Nat.le_of_ble_eq_true rfl⟩ rfl [] rfl (Nat.le_of_ble_eq_true rfl) dX6_hold_34 ⟨Nat.zero_le _, Nat.zero_le _⟩) (fun H locs hP hS => ?_)
      obtain ⟨v_7, hv_7⟩ : ∃ zz, zz = fnd v 0 := ⟨_, rfl⟩
      rw [← hv_7] at hP
      exact t_F C rfl hP hS (by (rw [holdPM, nM_eq hM]; rw [cif_pos ⟨jx, hjx, rfl⟩]; (try simp only [tn_nI (show jx < 2 ^ 31 by omega)]); rw [cif_neg b_3]) <;> try simp only [fdM, upw_same, eq_self, if_true, if_false, ite_true, ite_false, ↓reduceIte, tn_nI (show jx < 2 ^ 31 by omega), hv_7, nM_eq hM]) (by (rw [holdPM, nM_eq hM]; rw [cif_pos ⟨jx, hjx, rfl⟩]; (try simp only [tn_nI (show jx < 2 ^ 31 by omega)]); rw [cif_neg b_3]) <;> try simp only [fdM, upw_same, eq_self, if_true, if_false, ite_true, ite_false, ↓reduceIte, tn_nI (show jx < 2 ^ 31 by omega), hv_7, nM_eq hM]) dX6_hold_37
  · skip
    have b_1 := fun h => b_1 ((in_iff 10 (by decide) (by decide)).mpr h)
    refine lv_if_eq (tgt := 32) C.1.1 C.1.2.1 dX6_hold_9 (by decide) (fun _ => ?_) (fun c_8 => absurd c_8 (by decide))
    refine lv_aload_n C.1.1 C.1.2.1 dX6_hold_32 rfl (lv_at hl 0 rfl) ?_
    refine lv_iconst (v := 0) C.1.1 C.1.2.1 dX6_hold_33 rfl ?_
    refine a_F hS (run_V C hP hS hl.1 53 6 (Nat.lt_of_lt_of_le (by decide) hn) rfl (by decide) rfl [.int 0] (kX6_finds l g n v 0 (by decide)) gX6_hold_X6_finds rfl hdX6_finds rfl ⟨rfl, rfl⟩ ⟨Nat.le_of_ble_eq_true rfl, Nat.le_of_ble_eq_true rfl⟩ rfl [] rfl (Nat.le_of_ble_eq_true rfl) dX6_hold_34 ⟨Nat.zero_le _, Nat.zero_le _⟩) (fun H locs hP hS => ?_)
    obtain ⟨v_9, hv_9⟩ : ∃ zz, zz = fnd v 0 := ⟨_, rfl⟩
    rw [← hv_9] at hP
    exact t_F C rfl hP hS (by (rw [holdPM, nM_eq hM]; rw [cif_neg b_1]) <;> try simp only [fdM, upw_same, eq_self, if_true, if_false, ite_true, ite_false, ↓reduceIte, hv_9, nM_eq hM]) (by (rw [holdPM, nM_eq hM]; rw [cif_neg b_1]) <;> try simp only [fdM, upw_same, eq_self, if_true, if_false, ite_true, ite_false, ↓reduceIte, hv_9, nM_eq hM]) dX6_hold_37

abbrev rmX6_as : Room := { frames := 1, cells := 0, slots := 0, locals := 25 }
set_option maxHeartbeats 4000000 in
set_option maxRecDepth 100000 in
theorem kX6_as (l : Launch) (g : GG) (n : Nat) (v : SV) (x y : Int32) (hSp : ∀ i, i < 10 → ∃ q, q ≤ 8 ∧ v.1 54 (73 + i) = nI q) : Met l yX6_as wsX6_as rmX6_as (PW g n v [.ref (gA g 53), .int x, .int y]) (QF g n ((asM v x y).1) ((asM v x y).2)) 0 0 (wA g n) := by
  refine Met.begin RX6 rfl (by decide) rfl (Nat.le_of_ble_eq_true rfl) ?_
  intro p e s m args below meth c ls ha C hP hS hl
  have hn : 64 ≤ n := C.2.1.1.2.1
  have hi6 : ∀ w ∈ u_ws RX6 TX6 17, w ∈ wsX6_as := by decide +kernel
  have hl : lv_has ls 5 [(0, .ref (gA g 53)), (1, .int x), (2, .int y)] := hl
  refine lv_iload_n C.1.1 C.1.2.1 dX6_as_0 rfl (lv_at hl 1 rfl) ?_
  refine lv_i2l (v := x.toInt64) C.1.1 C.1.2.1 dX6_as_1 rfl ?_
  refine lv_lconst (v := 0) C.1.1 C.1.2.1 dX6_as_2 rfl ?_
  refine lv_ldc2 (v := 9) C.1.1 C.1.2.1 C.1.2.2.2.1 (C.1.2.2.2.2 _ (List.mem_of_getElem? (i := 1) rfl)) dX6_as_3 ?_
  refine a_B hS (run_S C hP hS hl.1 [.long x.toInt64, .long 0, .long 9] (kX6_in l g n v x.toInt64 0 9) gX6_as_X6_in hdX6_in rfl ⟨rfl, rfl⟩ ⟨Nat.le_of_ble_eq_true rfl, Nat.le_of_ble_eq_true rfl⟩ rfl [] rfl (Nat.le_of_ble_eq_true rfl) dX6_as_6 ⟨Nat.zero_le _, Nat.zero_le _⟩) (fun b_1 H locs hP hS => ?_) (fun b_1 H locs hP hS => ?_)
  · skip
    have b_1 := (in_iff 10 (by decide) (by decide)).mp b_1
    obtain ⟨jx, hjx, rfl⟩ := b_1
    refine lv_if_eq (tgt := 24) C.1.1 C.1.2.1 dX6_as_9 (by decide) (fun c_2 => absurd c_2 (by decide)) (fun _ => ?_)
    refine lv_iload_n C.1.1 C.1.2.1 dX6_as_12 rfl (lv_at hl 2 rfl) ?_
    refine lv_i2l (v := y.toInt64) C.1.1 C.1.2.1 dX6_as_13 rfl ?_
    refine lv_lconst (v := 0) C.1.1 C.1.2.1 dX6_as_14 rfl ?_
    refine lv_ldc2 (v := 6) C.1.1 C.1.2.1 C.1.2.2.2.1 (C.1.2.2.2.2 _ (List.mem_of_getElem? (i := 2) rfl)) dX6_as_15 ?_
    refine a_B hS (run_S C hP hS hl.1 [.long y.toInt64, .long 0, .long 6] (kX6_in l g n v y.toInt64 0 6) gX6_as_X6_in hdX6_in rfl ⟨rfl, rfl⟩ ⟨Nat.le_of_ble_eq_true rfl, Nat.le_of_ble_eq_true rfl⟩ rfl [] rfl (Nat.le_of_ble_eq_true rfl) dX6_as_18 ⟨Nat.zero_le _, Nat.zero_le _⟩) (fun b_3 H locs hP hS => ?_) (fun b_3 H locs hP hS => ?_)
    · skip
      have b_3 := (in_iff 7 (by decide) (by decide)).mp b_3
      obtain ⟨jy, hjy, rfl⟩ := b_3
      refine lv_if_ne (tgt := 30) C.1.1 C.1.2.1 dX6_as_21 (by decide) (fun _ => ?_) (fun c_4 => absurd c_4 (by decide))
      obtain ⟨q, hq, eq⟩ := hSp jx hjx
      refine lv_aload_n C.1.1 C.1.2.1 dX6_as_30 rfl (lv_at hl 0 rfl) ?_
      refine r_get C hP 53 6 (Nat.lt_of_lt_of_le (by decide) hn) rfl (by decide) rfl hi6 0 (by decide) (List.mem_of_getElem? (i := 3) rfl) rfl (val := .ref (gA g 54)) rfl dX6_as_31 ?_
      refine lv_bipush (v := 73) C.1.1 C.1.2.1 dX6_as_34 rfl ?_
      refine lv_iload_n C.1.1 C.1.2.1 dX6_as_36 rfl (lv_at hl 1 rfl) ?_
      refine lv_iadd C.1.1 C.1.2.1 dX6_as_37 ?_
      refine lv_topE (nI (73 + jx)) (nI_add 73 jx) ?_
      refine r_iald C hP 54 (Nat.lt_of_lt_of_le (by decide) hn) rfl (73 + jx) rfl (N := 83) rfl (by decide) (by omega) dX6_as_38 ?_
      refine lv_topE (nI q) eq ?_
      refine lv_if_ne (tgt := 48) C.1.1 C.1.2.1 dX6_as_39 (by decide) (fun c_5 => ?_) (fun c_5 => ?_)
      · rw [show (nI q = 0) = (q = 0) from propext (nI_eq (a := q) (b := 0) (by omega) (by omega))] at c_5
        refine lv_aload_n C.1.1 C.1.2.1 dX6_as_48 rfl (lv_at hl 0 rfl) ?_
        refine r_get C hP 53 6 (Nat.lt_of_lt_of_le (by decide) hn) rfl (by decide) rfl hi6 0 (by decide) (List.mem_of_getElem? (i := 3) rfl) rfl (val := .ref (gA g 54)) rfl dX6_as_49 ?_
        refine lv_bipush (v := 73) C.1.1 C.1.2.1 dX6_as_52 rfl ?_
        refine lv_iload_n C.1.1 C.1.2.1 dX6_as_54 rfl (lv_at hl 1 rfl) ?_
        refine lv_iadd C.1.1 C.1.2.1 dX6_as_55 ?_
        refine lv_topE (nI (73 + jx)) (nI_add 73 jx) ?_
        refine r_iald C hP 54 (Nat.lt_of_lt_of_le (by decide) hn) rfl (73 + jx) rfl (N := 83) rfl (by decide) (by omega) dX6_as_56 ?_
        refine lv_topE (nI q) eq ?_
        refine lv_iconst (v := 1) C.1.1 C.1.2.1 dX6_as_57 rfl ?_
        refine lv_isub C.1.1 C.1.2.1 dX6_as_58 ?_
        refine lv_topE (nI (q - 1)) (pk_sub (a := q) (b := 1) (by omega)) ?_
        refine lv_istore_n (lv' := [(3, .int (nI (q - 1))), (0, .ref (gA g 53)), (1, .int (nI jx)), (2, .int (nI jy))]) C.1.1 C.1.2.1 dX6_as_59 rfl hl (by decide) rfl (fun ls hl => ?_)
        refine lv_aload_n C.1.1 C.1.2.1 dX6_as_60 rfl (lv_at hl 1 rfl) ?_
        refine lv_iload_n C.1.1 C.1.2.1 dX6_as_61 rfl (lv_at hl 0 rfl) ?_
        refine lv_iconst (v := 0) C.1.1 C.1.2.1 dX6_as_62 rfl ?_
        refine a_F hS (run_V C hP hS hl.1 53 6 (Nat.lt_of_lt_of_le (by decide) hn) rfl (by decide) rfl [.int (nI (q - 1)), .int 0] (kX6_its l g n v (q - 1) 0 (by omega) (by omega)) gX6_as_X6_its rfl hdX6_its rfl ⟨rfl, rfl⟩ ⟨Nat.le_of_ble_eq_true rfl, Nat.le_of_ble_eq_true rfl⟩ rfl [] rfl (Nat.le_of_ble_eq_true rfl) dX6_as_63 ⟨Nat.zero_le _, Nat.zero_le _⟩) (fun H locs hP hS => ?_)
        refine lv_istore (lv' := [(4, .int (rowM (v.1 54) (q - 1) 0)), (3, .int (nI (q - 1))), (0, .ref (gA g 53)), (1, .int (nI jx)), (2, .int (nI jy))]) C.1.1 C.1.2.1 dX6_as_66 hl (by decide) rfl (fun ls hl => ?_)
        refine lv_iload_n C.1.1 C.1.2.1 dX6_as_68 rfl (lv_at hl 4 rfl) ?_
        refine lv_if_eq (tgt := 99) C.1.1 C.1.2.1 dX6_as_69 (by decide) (fun c_6 => ?_) (fun c_6 => ?_)
        · rw [show (nI jy = 0) = (jy = 0) from propext (nI_eq (a := jy) (b := 0) (by omega) (by omega))] at c_6
          refine lv_iload_n C.1.1 C.1.2.1 dX6_as_99 rfl (lv_at hl 1 rfl) ?_
          refine lv_goto (tgt := 108) C.1.1 C.1.2.1 dX6_as_100 (by decide) ?_
          exact t_F C rfl hP hS (by rw [asM, cif_pos ⟨jx, hjx, rfl⟩, cif_pos ⟨jy, hjy, rfl⟩, tn_nI (show jx < 2 ^ 31 by omega), eq, if_neg (nI_ne0 (by omega) (by omega)), tn_nI (show q < 2 ^ 31 by omega)]; rw [cif_pos (by first | exact Or.inl (by rw [c_6]; rfl) | exact Or.inr (Or.inl c_6) | exact Or.inr (Or.inr (Or.inl c_6)) | exact Or.inr (Or.inr (Or.inr c_6)))]; exact (pk_sub (a := q) (b := 1) (by omega)).symm) (by rw [asM, cif_pos ⟨jx, hjx, rfl⟩, cif_pos ⟨jy, hjy, rfl⟩, tn_nI (show jx < 2 ^ 31 by omega), eq, if_neg (nI_ne0 (by omega) (by omega)), tn_nI (show q < 2 ^ 31 by omega)]; rw [cif_pos (by first | exact Or.inl (by rw [c_6]; rfl) | exact Or.inr (Or.inl c_6) | exact Or.inr (Or.inr (Or.inl c_6)) | exact Or.inr (Or.inr (Or.inr c_6)))]) dX6_as_108
        · rw [show (nI jy = 0) = (jy = 0) from propext (nI_eq (a := jy) (b := 0) (by omega) (by omega))] at c_6
          refine lv_iload_n C.1.1 C.1.2.1 dX6_as_72 rfl (lv_at hl 4 rfl) ?_
          refine lv_iload C.1.1 C.1.2.1 dX6_as_73 (lv_at hl 0 rfl) ?_
          refine lv_icmp_eq (tgt := 99) C.1.1 C.1.2.1 dX6_as_75 (by decide) (fun c_7 => ?_) (fun c_7 => ?_)
          · skip
            refine lv_iload_n C.1.1 C.1.2.1 dX6_as_99 rfl (lv_at hl 1 rfl) ?_
            refine lv_goto (tgt := 108) C.1.1 C.1.2.1 dX6_as_100 (by decide) ?_
            exact t_F C rfl hP hS (by rw [asM, cif_pos ⟨jx, hjx, rfl⟩, cif_pos ⟨jy, hjy, rfl⟩, tn_nI (show jx < 2 ^ 31 by omega), eq, if_neg (nI_ne0 (by omega) (by omega)), tn_nI (show q < 2 ^ 31 by omega)]; rw [cif_pos (by first | exact Or.inl (by rw [c_7]; rfl) | exact Or.inr (Or.inl c_7) | exact Or.inr (Or.inr (Or.inl c_7)) | exact Or.inr (Or.inr (Or.inr c_7)))]; exact (pk_sub (a := q) (b := 1) (by omega)).symm) (by rw [asM, cif_pos ⟨jx, hjx, rfl⟩, cif_pos ⟨jy, hjy, rfl⟩, tn_nI (show jx < 2 ^ 31 by omega), eq, if_neg (nI_ne0 (by omega) (by omega)), tn_nI (show q < 2 ^ 31 by omega)]; rw [cif_pos (by first | exact Or.inl (by rw [c_7]; rfl) | exact Or.inr (Or.inl c_7) | exact Or.inr (Or.inr (Or.inl c_7)) | exact Or.inr (Or.inr (Or.inr c_7)))]) dX6_as_108
          · skip
            refine lv_iload_n C.1.1 C.1.2.1 dX6_as_78 rfl (lv_at hl 4 rfl) ?_
            refine lv_iload C.1.1 C.1.2.1 dX6_as_79 (lv_at hl 0 rfl) ?_
            refine a_F hS (run_S C hP hS hl.1 [.int (rowM (v.1 54) (q - 1) 0)] (kX6_above l g n v (rowM (v.1 54) (q - 1) 0)) gX6_as_X6_above hdX6_above rfl ⟨rfl, rfl⟩ ⟨Nat.le_of_ble_eq_true rfl, Nat.le_of_ble_eq_true rfl⟩ rfl [.int (nI jy)] rfl (Nat.le_of_ble_eq_true rfl) dX6_as_81 ⟨Nat.zero_le _, Nat.zero_le _⟩) (fun H locs hP hS => ?_)
            refine lv_icmp_eq (tgt := 99) C.1.1 C.1.2.1 dX6_as_84 (by decide) (fun c_8 => ?_) (fun c_8 => ?_)
            · skip
              refine lv_iload_n C.1.1 C.1.2.1 dX6_as_99 rfl (lv_at hl 1 rfl) ?_
              refine lv_goto (tgt := 108) C.1.1 C.1.2.1 dX6_as_100 (by decide) ?_
              exact t_F C rfl hP hS (by rw [asM, cif_pos ⟨jx, hjx, rfl⟩, cif_pos ⟨jy, hjy, rfl⟩, tn_nI (show jx < 2 ^ 31 by omega), eq, if_neg (nI_ne0 (by omega) (by omega)), tn_nI (show q < 2 ^ 31 by omega)]; rw [cif_pos (by first | exact Or.inl (by rw [c_8]; rfl) | exact Or.inr (Or.inl c_8) | exact Or.inr (Or.inr (Or.inl c_8)) | exact Or.inr (Or.inr (Or.inr c_8)))]; exact (pk_sub (a := q) (b := 1) (by omega)).symm) (by rw [asM, cif_pos ⟨jx, hjx, rfl⟩, cif_pos ⟨jy, hjy, rfl⟩, tn_nI (show jx < 2 ^ 31 by omega), eq, if_neg (nI_ne0 (by omega) (by omega)), tn_nI (show q < 2 ^ 31 by omega)]; rw [cif_pos (by first | exact Or.inl (by rw [c_8]; rfl) | exact Or.inr (Or.inl c_8) | exact Or.inr (Or.inr (Or.inl c_8)) | exact Or.inr (Or.inr (Or.inr c_8)))]) dX6_as_108
            · skip
              refine lv_iload_n C.1.1 C.1.2.1 dX6_as_87 rfl (lv_at hl 4 rfl) ?_
              refine lv_iload C.1.1 C.1.2.1 dX6_as_88 (lv_at hl 0 rfl) ?_
              refine a_F hS (run_S C hP hS hl.1 [.int (rowM (v.1 54) (q - 1) 0)] (kX6_above l g n v (rowM (v.1 54) (q - 1) 0)) gX6_as_X6_above hdX6_above rfl ⟨rfl, rfl⟩ ⟨Nat.le_of_ble_eq_true rfl, Nat.le_of_ble_eq_true rfl⟩ rfl [.int (nI jy)] rfl (Nat.le_of_ble_eq_true rfl) dX6_as_90 ⟨Nat.zero_le _, Nat.zero_le _⟩) (fun H locs hP hS => ?_)
              refine a_F hS (run_S C hP hS hl.1 [.int (aboveF (rowM (v.1 54) (q - 1) 0))] (kX6_above l g n v (aboveF (rowM (v.1 54) (q - 1) 0))) gX6_as_X6_above hdX6_above rfl ⟨rfl, rfl⟩ ⟨Nat.le_of_ble_eq_true rfl, Nat.le_of_ble_eq_true rfl⟩ rfl [.int (nI jy)] rfl (Nat.le_of_ble_eq_true rfl) dX6_as_93 ⟨Nat.zero_le _, Nat.zero_le _⟩) (fun H locs hP hS => ?_)
              refine lv_icmp_ne (tgt := 103) C.1.1 C.1.2.1 dX6_as_96 (by decide) (fun c_9 => ?_) (fun c_9 => ?_)
              · skip
                refine lv_aload_n C.1.1 C.1.2.1 dX6_as_103 rfl (lv_at hl 2 rfl) ?_
                refine lv_iconst (v := 2) C.1.1 C.1.2.1 dX6_as_104 rfl ?_
                refine a_F hS (run_V C hP hS hl.1 53 6 (Nat.lt_of_lt_of_le (by decide) hn) rfl (by decide) rfl [.int 2] (kX6_finds l g n v 2 (by decide)) gX6_as_X6_finds rfl hdX6_finds rfl ⟨rfl, rfl⟩ ⟨Nat.le_of_ble_eq_true rfl, Nat.le_of_ble_eq_true rfl⟩ rfl [] rfl (Nat.le_of_ble_eq_true rfl) dX6_as_105 ⟨Nat.zero_le _, Nat.zero_le _⟩) (fun H locs hP hS => ?_)
                obtain ⟨v_10, hv_10⟩ : ∃ zz, zz = fnd v 2 := ⟨_, rfl⟩
                rw [← hv_10] at hP
                exact t_F C rfl hP hS (by rw [asM, cif_pos ⟨jx, hjx, rfl⟩, cif_pos ⟨jy, hjy, rfl⟩, tn_nI (show jx < 2 ^ 31 by omega), eq, if_neg (nI_ne0 (by omega) (by omega)), tn_nI (show q < 2 ^ 31 by omega)]; rw [cif_neg (fun h => h.elim (fun q0 => c_6 ((nI_eq (a := jy) (b := 0) (by omega) (by omega)).mp q0)) (fun h => h.elim c_7 (fun h => h.elim c_8 c_9)))]; rfl) (by rw [asM, cif_pos ⟨jx, hjx, rfl⟩, cif_pos ⟨jy, hjy, rfl⟩, tn_nI (show jx < 2 ^ 31 by omega), eq, if_neg (nI_ne0 (by omega) (by omega)), tn_nI (show q < 2 ^ 31 by omega)]; rw [cif_neg (fun h => h.elim (fun q0 => c_6 ((nI_eq (a := jy) (b := 0) (by omega) (by omega)).mp q0)) (fun h => h.elim c_7 (fun h => h.elim c_8 c_9))), hv_10]; rfl) dX6_as_108
              · skip
                refine lv_iload_n C.1.1 C.1.2.1 dX6_as_99 rfl (lv_at hl 1 rfl) ?_
                refine lv_goto (tgt := 108) C.1.1 C.1.2.1 dX6_as_100 (by decide) ?_
                exact t_F C rfl hP hS (by rw [asM, cif_pos ⟨jx, hjx, rfl⟩, cif_pos ⟨jy, hjy, rfl⟩, tn_nI (show jx < 2 ^ 31 by omega), eq, if_neg (nI_ne0 (by omega) (by omega)), tn_nI (show q < 2 ^ 31 by omega)]; rw [cif_pos (by first | exact Or.inl (by rw [c_9]; rfl) | exact Or.inr (Or.inl c_9) | exact Or.inr (Or.inr (Or.inl c_9)) | exact Or.inr (Or.inr (Or.inr c_9)))]; exact (pk_sub (a := q) (b := 1) (by omega)).symm) (by rw [asM, cif_pos ⟨jx, hjx, rfl⟩, cif_pos ⟨jy, hjy, rfl⟩, tn_nI (show jx < 2 ^ 31 by omega), eq, if_neg (nI_ne0 (by omega) (by omega)), tn_nI (show q < 2 ^ 31 by omega)]; rw [cif_pos (by first | exact Or.inl (by rw [c_9]; rfl) | exact Or.inr (Or.inl c_9) | exact Or.inr (Or.inr (Or.inl c_9)) | exact Or.inr (Or.inr (Or.inr c_9)))]) dX6_as_108
      · rw [show (nI q = 0) = (q = 0) from propext (nI_eq (a := q) (b := 0) (by omega) (by omega))] at c_5
        refine lv_aload_n C.1.1 C.1.2.1 dX6_as_42 rfl (lv_at hl 0 rfl) ?_
        refine lv_iconst (v := 5) C.1.1 C.1.2.1 dX6_as_43 rfl ?_
        refine a_F hS (run_V C hP hS hl.1 53 6 (Nat.lt_of_lt_of_le (by decide) hn) rfl (by decide) rfl [.int 5] (kX6_finds l g n v 5 (by decide)) gX6_as_X6_finds rfl hdX6_finds rfl ⟨rfl, rfl⟩ ⟨Nat.le_of_ble_eq_true rfl, Nat.le_of_ble_eq_true rfl⟩ rfl [] rfl (Nat.le_of_ble_eq_true rfl) dX6_as_44 ⟨Nat.zero_le _, Nat.zero_le _⟩) (fun H locs hP hS => ?_)
        obtain ⟨v_11, hv_11⟩ : ∃ zz, zz = fnd v 5 := ⟨_, rfl⟩
        rw [← hv_11] at hP
        exact t_F C rfl hP hS (by rw [asM, cif_pos ⟨jx, hjx, rfl⟩, cif_pos ⟨jy, hjy, rfl⟩, tn_nI (show jx < 2 ^ 31 by omega), eq, if_pos (by rw [c_5]; rfl)]; rfl) (by rw [asM, cif_pos ⟨jx, hjx, rfl⟩, cif_pos ⟨jy, hjy, rfl⟩, tn_nI (show jx < 2 ^ 31 by omega), eq, if_pos (by rw [c_5]; rfl), hv_11]; rfl) dX6_as_47
    · skip
      have b_3 := fun h => b_3 ((in_iff 7 (by decide) (by decide)).mpr h)
      refine lv_if_ne (tgt := 30) C.1.1 C.1.2.1 dX6_as_21 (by decide) (fun c_12 => absurd c_12 (by decide)) (fun _ => ?_)
      refine lv_aload_n C.1.1 C.1.2.1 dX6_as_24 rfl (lv_at hl 0 rfl) ?_
      refine lv_iconst (v := 0) C.1.1 C.1.2.1 dX6_as_25 rfl ?_
      refine a_F hS (run_V C hP hS hl.1 53 6 (Nat.lt_of_lt_of_le (by decide) hn) rfl (by decide) rfl [.int 0] (kX6_finds l g n v 0 (by decide)) gX6_as_X6_finds rfl hdX6_finds rfl ⟨rfl, rfl⟩ ⟨Nat.le_of_ble_eq_true rfl, Nat.le_of_ble_eq_true rfl⟩ rfl [] rfl (Nat.le_of_ble_eq_true rfl) dX6_as_26 ⟨Nat.zero_le _, Nat.zero_le _⟩) (fun H locs hP hS => ?_)
      obtain ⟨v_13, hv_13⟩ : ∃ zz, zz = fnd v 0 := ⟨_, rfl⟩
      rw [← hv_13] at hP
      exact t_F C rfl hP hS (by (rw [asM]; rw [cif_pos ⟨jx, hjx, rfl⟩]; (try simp only [tn_nI (show jx < 2 ^ 31 by omega)]); rw [cif_neg b_3]) <;> try simp only [fdM, upw_same, eq_self, if_true, if_false, ite_true, ite_false, ↓reduceIte, tn_nI (show jx < 2 ^ 31 by omega), hv_13]) (by (rw [asM]; rw [cif_pos ⟨jx, hjx, rfl⟩]; (try simp only [tn_nI (show jx < 2 ^ 31 by omega)]); rw [cif_neg b_3]) <;> try simp only [fdM, upw_same, eq_self, if_true, if_false, ite_true, ite_false, ↓reduceIte, tn_nI (show jx < 2 ^ 31 by omega), hv_13]) dX6_as_29
  · skip
    have b_1 := fun h => b_1 ((in_iff 10 (by decide) (by decide)).mpr h)
    refine lv_if_eq (tgt := 24) C.1.1 C.1.2.1 dX6_as_9 (by decide) (fun _ => ?_) (fun c_14 => absurd c_14 (by decide))
    refine lv_aload_n C.1.1 C.1.2.1 dX6_as_24 rfl (lv_at hl 0 rfl) ?_
    refine lv_iconst (v := 0) C.1.1 C.1.2.1 dX6_as_25 rfl ?_
    refine a_F hS (run_V C hP hS hl.1 53 6 (Nat.lt_of_lt_of_le (by decide) hn) rfl (by decide) rfl [.int 0] (kX6_finds l g n v 0 (by decide)) gX6_as_X6_finds rfl hdX6_finds rfl ⟨rfl, rfl⟩ ⟨Nat.le_of_ble_eq_true rfl, Nat.le_of_ble_eq_true rfl⟩ rfl [] rfl (Nat.le_of_ble_eq_true rfl) dX6_as_26 ⟨Nat.zero_le _, Nat.zero_le _⟩) (fun H locs hP hS => ?_)
    obtain ⟨v_15, hv_15⟩ : ∃ zz, zz = fnd v 0 := ⟨_, rfl⟩
    rw [← hv_15] at hP
    exact t_F C rfl hP hS (by (rw [asM]; rw [cif_neg b_1]) <;> try simp only [fdM, upw_same, eq_self, if_true, if_false, ite_true, ite_false, ↓reduceIte, hv_15]) (by (rw [asM]; rw [cif_neg b_1]) <;> try simp only [fdM, upw_same, eq_self, if_true, if_false, ite_true, ite_false, ↓reduceIte, hv_15]) dX6_as_29

abbrev rmX6_judge : Room := { frames := 3, cells := 0, slots := 0, locals := 66 }
set_option maxHeartbeats 4000000 in
set_option maxRecDepth 100000 in
theorem kX6_judge (l : Launch) (g : GG) (n : Nat) (v : SV) (x : Int32) (hSz : ∀ i, i < 4 → ∃ z, z ≤ 40 ∧ v.1 61 i = nI z) : Met l yX6_judge wsX6_judge rmX6_judge (PW g n v [.ref (gA g 53), .int x]) (QF g n ((judgeM v x).1) ((judgeM v x).2)) 0 0 (wA g n) := by
  refine Met.begin RX6 rfl (by decide) rfl (Nat.le_of_ble_eq_true rfl) ?_
  intro p e s m args below meth c ls ha C hP hS hl
  have hn : 64 ≤ n := C.2.1.1.2.1
  have hi6 : ∀ w ∈ u_ws RX6 TX6 17, w ∈ wsX6_judge := by decide +kernel
  have hl : lv_has ls 4 [(0, .ref (gA g 53)), (1, .int x)] := hl
  refine lv_aload_n C.1.1 C.1.2.1 dX6_judge_0 rfl (lv_at hl 0 rfl) ?_
  refine lv_iload_n C.1.1 C.1.2.1 dX6_judge_1 rfl (lv_at hl 1 rfl) ?_
  refine a_F hS (run_V C hP hS hl.1 53 6 (Nat.lt_of_lt_of_le (by decide) hn) rfl (by decide) rfl [.int x] (kX6_whyNone l g n v x) gX6_judge_X6_whyNone rfl hdX6_whyNone rfl ⟨rfl, rfl⟩ ⟨Nat.le_of_ble_eq_true rfl, Nat.le_of_ble_eq_true rfl⟩ rfl [] rfl (Nat.le_of_ble_eq_true rfl) dX6_judge_2 ⟨Nat.zero_le _, Nat.zero_le _⟩) (fun H locs hP hS => ?_)
  refine lv_istore_n (lv' := [(2, .int (whyF v x)), (0, .ref (gA g 53)), (1, .int x)]) C.1.1 C.1.2.1 dX6_judge_5 rfl hl (by decide) rfl (fun ls hl => ?_)
  refine lv_iload_n C.1.1 C.1.2.1 dX6_judge_6 rfl (lv_at hl 0 rfl) ?_
  refine lv_if_lt (tgt := 16) C.1.1 C.1.2.1 dX6_judge_7 (by decide) (fun c_1 => ?_) (fun c_1 => ?_)
  · skip
    obtain ⟨jx, hjx, rfl, hbx⟩ := why_ok c_1
    obtain ⟨Z, hZ, eZ⟩ := hSz jx hjx
    refine lv_iconst (v := 0) C.1.1 C.1.2.1 dX6_judge_16 rfl ?_
    refine lv_istore_n (lv' := [(3, .int 0), (2, .int (whyF v (nI jx))), (0, .ref (gA g 53)), (1, .int (nI jx))]) C.1.1 C.1.2.1 dX6_judge_17 rfl hl (by decide) rfl (fun ls hl => ?_)
    have lp_18 : ∀ (k_18 i : Nat), i ≤ Z → Z + 1 ≤ i + k_18 → ∀ (H : Heap) (locs : List Loc) (ls : Array Slot), (∀ t, t < i → ¬ (fun t => ¬ ((∃ j : Nat, j < 12 ∧ nI t = nI j) ∧ v.1 62 (40 * jx + t) = v.1 54 (13 + t))) t) → va_P g.1 vwCl (wl g n v) H → va_S (wA g n) s.heap H locs → lv_has ls 4 [(0, .ref (gA g 53)), (1, .int (nI jx)), (2, .int (whyF v (nI jx))), (3, .int (nI i))] → W p l e rmX6_judge s m args below meth c H locs 0 0 (MQ below (QF g n ((judgeM v (nI jx)).1) ((judgeM v (nI jx)).2)) args s 0 0 (wA g n)) (F0 m 18 ls []) := by
      clear hP hS hl
      intro k_18
      induction k_18 with
      | zero => exact fun i h1 h2 => absurd h2 (by omega)
      | succ k_18 ih_18 =>
        intro i hi_18 hk_18 H locs ls hno hP hS hl
        refine lv_iload_n C.1.1 C.1.2.1 dX6_judge_18 rfl (lv_at hl 3 rfl) ?_
        refine lv_aload_n C.1.1 C.1.2.1 dX6_judge_19 rfl (lv_at hl 0 rfl) ?_
        refine r_get C hP 53 6 (Nat.lt_of_lt_of_le (by decide) hn) rfl (by decide) rfl hi6 14 (by decide) (List.mem_of_getElem? (i := 1) rfl) rfl (val := .ref (gA g 61)) rfl dX6_judge_20 ?_
        refine lv_iload_n C.1.1 C.1.2.1 dX6_judge_23 rfl (lv_at hl 1 rfl) ?_
        refine r_iald C hP 61 (Nat.lt_of_lt_of_le (by decide) hn) rfl jx rfl (N := 4) rfl (by decide) (by omega) dX6_judge_24 ?_
        refine lv_topE (nI Z) eZ ?_
        refine lv_icmp_ge (tgt := 68) C.1.1 C.1.2.1 dX6_judge_25 (by decide) (fun c_2 => ?_) (fun c_2 => ?_)
        · rw [show (nI Z ≤ nI i) = (Z ≤ i) from propext (nI_leI (a := Z) (b := i) (by omega) (by omega))] at c_2
          refine lv_iconst (v := 0) C.1.1 C.1.2.1 dX6_judge_68 rfl ?_
          exact t_F C rfl hP hS (by rw [judgeM, if_pos c_1, tn_nI (show jx < 2 ^ 31 by omega), eZ, tn_nI (show Z < 2 ^ 31 by omega), lk_no (P := (fun t => ¬ ((∃ j : Nat, j < 12 ∧ nI t = nI j) ∧ v.1 62 (40 * jx + t) = v.1 54 (13 + t)))) Z 0 (fun t _ b => hno t (by omega)), if_neg (by omega)]) (by rw [judgeM, if_pos c_1, tn_nI (show jx < 2 ^ 31 by omega), eZ, tn_nI (show Z < 2 ^ 31 by omega), lk_no (P := (fun t => ¬ ((∃ j : Nat, j < 12 ∧ nI t = nI j) ∧ v.1 62 (40 * jx + t) = v.1 54 (13 + t)))) Z 0 (fun t _ b => hno t (by omega)), if_neg (by omega)]) dX6_judge_69
        · rw [show (nI Z ≤ nI i) = (Z ≤ i) from propext (nI_leI (a := Z) (b := i) (by omega) (by omega))] at c_2
          refine lv_iload_n C.1.1 C.1.2.1 dX6_judge_28 rfl (lv_at hl 3 rfl) ?_
          refine a_B hS (run_S C hP hS hl.1 [.int (nI i)] (kX6_isGood l g n v (nI i)) gX6_judge_X6_isGood hdX6_isGood rfl ⟨rfl, rfl⟩ ⟨Nat.le_of_ble_eq_true rfl, Nat.le_of_ble_eq_true rfl⟩ rfl [] rfl (Nat.le_of_ble_eq_true rfl) dX6_judge_29 ⟨Nat.zero_le _, Nat.zero_le _⟩) (fun b_3 H locs hP hS => ?_) (fun b_3 H locs hP hS => ?_)
          · skip
            refine lv_if_eq (tgt := 58) C.1.1 C.1.2.1 dX6_judge_32 (by decide) (fun c_4 => absurd c_4 (by decide)) (fun _ => ?_)
            refine lv_aload_n C.1.1 C.1.2.1 dX6_judge_35 rfl (lv_at hl 0 rfl) ?_
            refine r_get C hP 53 6 (Nat.lt_of_lt_of_le (by decide) hn) rfl (by decide) rfl hi6 15 (by decide) (List.mem_of_getElem? (i := 2) rfl) rfl (val := .ref (gA g 62)) rfl dX6_judge_36 ?_
            refine lv_bipush (v := 40) C.1.1 C.1.2.1 dX6_judge_39 rfl ?_
            refine lv_iload_n C.1.1 C.1.2.1 dX6_judge_41 rfl (lv_at hl 1 rfl) ?_
            refine lv_imul C.1.1 C.1.2.1 dX6_judge_42 ?_
            refine lv_topE (nI (40 * jx)) (pk_mul 40 jx) ?_
            refine lv_iload_n C.1.1 C.1.2.1 dX6_judge_43 rfl (lv_at hl 3 rfl) ?_
            refine lv_iadd C.1.1 C.1.2.1 dX6_judge_44 ?_
            refine lv_topE (nI ((40 * jx) + i)) (nI_add (40 * jx) i) ?_
            refine r_iald C hP 62 (Nat.lt_of_lt_of_le (by decide) hn) rfl ((40 * jx) + i) rfl (N := 160) rfl (by decide) (by omega) dX6_judge_45 ?_
            refine lv_aload_n C.1.1 C.1.2.1 dX6_judge_46 rfl (lv_at hl 0 rfl) ?_
            refine r_get C hP 53 6 (Nat.lt_of_lt_of_le (by decide) hn) rfl (by decide) rfl hi6 0 (by decide) (List.mem_of_getElem? (i := 3) rfl) rfl (val := .ref (gA g 54)) rfl dX6_judge_47 ?_
            refine lv_bipush (v := 13) C.1.1 C.1.2.1 dX6_judge_50 rfl ?_
            refine lv_iload_n C.1.1 C.1.2.1 dX6_judge_52 rfl (lv_at hl 3 rfl) ?_
            refine lv_iadd C.1.1 C.1.2.1 dX6_judge_53 ?_
            refine lv_topE (nI (13 + i)) (nI_add 13 i) ?_
            refine r_iald C hP 54 (Nat.lt_of_lt_of_le (by decide) hn) rfl (13 + i) rfl (N := 83) rfl (by decide) (by omega) dX6_judge_54 ?_
            refine lv_icmp_eq (tgt := 62) C.1.1 C.1.2.1 dX6_judge_55 (by decide) (fun c_5 => ?_) (fun c_5 => ?_)
            · skip
              refine lv_iinc (v := nI (i + 1)) (lv' := [(3, .int (nI (i + 1))), (0, .ref (gA g 53)), (1, .int (nI jx)), (2, .int (whyF v (nI jx)))]) C.1.1 C.1.2.1 dX6_judge_62 hl (k := 3) rfl (nI_1 i) (by decide) rfl (fun ls hl => ?_)
              refine lv_goto (tgt := 18) C.1.1 C.1.2.1 dX6_judge_65 (by decide) ?_
              exact ih_18 (i + 1) (by omega) (by omega) _ _ _ (fun t ht => if h9 : t < i then hno t h9 else by rw [show t = i by omega]; exact fun h => h ⟨b_3, c_5⟩) hP hS (lv_sub hl [1, 2, 3, 0] rfl)
            · skip
              refine lv_iconst (v := 1) C.1.1 C.1.2.1 dX6_judge_58 rfl ?_
              refine lv_iload_n C.1.1 C.1.2.1 dX6_judge_59 rfl (lv_at hl 3 rfl) ?_
              refine lv_iadd C.1.1 C.1.2.1 dX6_judge_60 ?_
              refine lv_topE (nI (1 + i)) (nI_add 1 i) ?_
              exact t_F C rfl hP hS (by rw [judgeM, if_pos c_1, tn_nI (show jx < 2 ^ 31 by omega), eZ, tn_nI (show Z < 2 ^ 31 by omega), lk_yes (P := (fun t => ¬ ((∃ j : Nat, j < 12 ∧ nI t = nI j) ∧ v.1 62 (40 * jx + t) = v.1 54 (13 + t)))) Z 0 i (Nat.zero_le _) (by omega) (fun t _ b => hno t b) (by first | exact fun h => b_3 h.1 | exact fun h => c_5 h.2), if_pos (by omega)]; exact (nI_add 1 i).symm) (by rw [judgeM, if_pos c_1, tn_nI (show jx < 2 ^ 31 by omega), eZ, tn_nI (show Z < 2 ^ 31 by omega), lk_yes (P := (fun t => ¬ ((∃ j : Nat, j < 12 ∧ nI t = nI j) ∧ v.1 62 (40 * jx + t) = v.1 54 (13 + t)))) Z 0 i (Nat.zero_le _) (by omega) (fun t _ b => hno t b) (by first | exact fun h => b_3 h.1 | exact fun h => c_5 h.2), if_pos (by omega)]) dX6_judge_61
          · skip
            refine lv_if_eq (tgt := 58) C.1.1 C.1.2.1 dX6_judge_32 (by decide) (fun _ => ?_) (fun c_6 => absurd c_6 (by decide))
            refine lv_iconst (v := 1) C.1.1 C.1.2.1 dX6_judge_58 rfl ?_
            refine lv_iload_n C.1.1 C.1.2.1 dX6_judge_59 rfl (lv_at hl 3 rfl) ?_
            refine lv_iadd C.1.1 C.1.2.1 dX6_judge_60 ?_
            refine lv_topE (nI (1 + i)) (nI_add 1 i) ?_
            exact t_F C rfl hP hS (by rw [judgeM, if_pos c_1, tn_nI (show jx < 2 ^ 31 by omega), eZ, tn_nI (show Z < 2 ^ 31 by omega), lk_yes (P := (fun t => ¬ ((∃ j : Nat, j < 12 ∧ nI t = nI j) ∧ v.1 62 (40 * jx + t) = v.1 54 (13 + t)))) Z 0 i (Nat.zero_le _) (by omega) (fun t _ b => hno t b) (by first | exact fun h => b_3 h.1 | exact fun h => b_3 h.2), if_pos (by omega)]; exact (nI_add 1 i).symm) (by rw [judgeM, if_pos c_1, tn_nI (show jx < 2 ^ 31 by omega), eZ, tn_nI (show Z < 2 ^ 31 by omega), lk_yes (P := (fun t => ¬ ((∃ j : Nat, j < 12 ∧ nI t = nI j) ∧ v.1 62 (40 * jx + t) = v.1 54 (13 + t)))) Z 0 i (Nat.zero_le _) (by omega) (fun t _ b => hno t b) (by first | exact fun h => b_3 h.1 | exact fun h => b_3 h.2), if_pos (by omega)]) dX6_judge_61
    exact lp_18 (Z + 1) 0 (Nat.zero_le _) (by omega) _ _ _ (fun t ht => absurd ht (Nat.not_lt_zero t)) hP hS (lv_sub hl [2, 3, 1, 0] rfl)
  · skip
    obtain ⟨jw, hjw, ew⟩ := why_no c_1
    rw [ew] at hl
    refine lv_aload_n C.1.1 C.1.2.1 dX6_judge_10 rfl (lv_at hl 1 rfl) ?_
    refine lv_iload_n C.1.1 C.1.2.1 dX6_judge_11 rfl (lv_at hl 0 rfl) ?_
    refine a_F hS (run_V C hP hS hl.1 53 6 (Nat.lt_of_lt_of_le (by decide) hn) rfl (by decide) rfl [.int (nI jw)] (kX6_finds l g n v jw (by omega)) gX6_judge_X6_finds rfl hdX6_finds rfl ⟨rfl, rfl⟩ ⟨Nat.le_of_ble_eq_true rfl, Nat.le_of_ble_eq_true rfl⟩ rfl [] rfl (Nat.le_of_ble_eq_true rfl) dX6_judge_12 ⟨Nat.zero_le _, Nat.zero_le _⟩) (fun H locs hP hS => ?_)
    obtain ⟨v_7, hv_7⟩ : ∃ zz, zz = fnd v jw := ⟨_, rfl⟩
    rw [← hv_7] at hP
    exact t_F C rfl hP hS (by rw [judgeM, if_neg c_1, ew, fdW, tn_nI (show jw < 2 ^ 31 by omega)]; rfl) (by rw [judgeM, if_neg c_1, ew, fdW, tn_nI (show jw < 2 ^ 31 by omega), hv_7]; rfl) dX6_judge_15

abbrev rmX6_load : Room := { frames := 3, cells := 0, slots := 0, locals := 66 }
set_option maxHeartbeats 4000000 in
set_option maxRecDepth 100000 in
theorem kX6_load (l : Launch) (g : GG) (n : Nat) (v : SV) (x : Int32) (N : Nat) (hM : okM (v.1 54) N) (hSz : ∀ i, i < 4 → ∃ z, z ≤ 40 ∧ v.1 61 i = nI z) : Met l yX6_load wsX6_load rmX6_load (PW g n v [.ref (gA g 53), .int x]) (QF g n ((loadM v x).1) ((loadM v x).2)) 0 0 (wA g n) := by
  refine Met.begin RX6 rfl (by decide) rfl (Nat.le_of_ble_eq_true rfl) ?_
  intro p e s m args below meth c ls ha C hP hS hl
  have hn : 64 ≤ n := C.2.1.1.2.1
  have hi6 : ∀ w ∈ u_ws RX6 TX6 17, w ∈ wsX6_load := by decide +kernel
  have hl : lv_has ls 4 [(0, .ref (gA g 53)), (1, .int x)] := hl
  have h8 := hM.1
  refine lv_aload_n C.1.1 C.1.2.1 dX6_load_0 rfl (lv_at hl 0 rfl) ?_
  refine lv_iload_n C.1.1 C.1.2.1 dX6_load_1 rfl (lv_at hl 1 rfl) ?_
  refine a_F hS (run_V C hP hS hl.1 53 6 (Nat.lt_of_lt_of_le (by decide) hn) rfl (by decide) rfl [.int x] (kX6_whyNone l g n v x) gX6_load_X6_whyNone rfl hdX6_whyNone rfl ⟨rfl, rfl⟩ ⟨Nat.le_of_ble_eq_true rfl, Nat.le_of_ble_eq_true rfl⟩ rfl [] rfl (Nat.le_of_ble_eq_true rfl) dX6_load_2 ⟨Nat.zero_le _, Nat.zero_le _⟩) (fun H locs hP hS => ?_)
  refine lv_istore_n (lv' := [(2, .int (whyF v x)), (0, .ref (gA g 53)), (1, .int x)]) C.1.1 C.1.2.1 dX6_load_5 rfl hl (by decide) rfl (fun ls hl => ?_)
  refine lv_iload_n C.1.1 C.1.2.1 dX6_load_6 rfl (lv_at hl 0 rfl) ?_
  refine lv_if_lt (tgt := 16) C.1.1 C.1.2.1 dX6_load_7 (by decide) (fun c_1 => ?_) (fun c_1 => ?_)
  · skip
    obtain ⟨jx, hjx, rfl, hbx⟩ := why_ok c_1
    obtain ⟨Z, hZ, eZ⟩ := hSz jx hjx
    refine lv_iconst (v := 0) C.1.1 C.1.2.1 dX6_load_16 rfl ?_
    refine lv_istore_n (lv' := [(3, .int 0), (2, .int (whyF v (nI jx))), (0, .ref (gA g 53)), (1, .int (nI jx))]) C.1.1 C.1.2.1 dX6_load_17 rfl hl (by decide) rfl (fun ls hl => ?_)
    have lp_18 : ∀ (k_18 i : Nat), i ≤ Z → Z + 1 ≤ i + k_18 → ∀ (H : Heap) (locs : List Loc) (ls : Array Slot), (∀ t, t < i → ¬ (fun t => ¬ (t < N ∧ ∃ j : Nat, j < 4096 ∧ v.1 62 (40 * jx + t) = nI j)) t) → va_P g.1 vwCl (wl g n (upw v 54 (ldM (v.1 54) (v.1 62) jx i))) H → va_S (wA g n) s.heap H locs → lv_has ls 4 [(0, .ref (gA g 53)), (1, .int (nI jx)), (2, .int (whyF v (nI jx))), (3, .int (nI i))] → W p l e rmX6_load s m args below meth c H locs 0 0 (MQ below (QF g n ((loadM v (nI jx)).1) ((loadM v (nI jx)).2)) args s 0 0 (wA g n)) (F0 m 18 ls []) := by
      clear hP hS hl
      intro k_18
      induction k_18 with
      | zero => exact fun i h1 h2 => absurd h2 (by omega)
      | succ k_18 ih_18 =>
        intro i hi_18 hk_18 H locs ls hno hP hS hl
        refine lv_iload_n C.1.1 C.1.2.1 dX6_load_18 rfl (lv_at hl 3 rfl) ?_
        refine lv_aload_n C.1.1 C.1.2.1 dX6_load_19 rfl (lv_at hl 0 rfl) ?_
        refine r_get C hP 53 6 (Nat.lt_of_lt_of_le (by decide) hn) rfl (by decide) rfl hi6 14 (by decide) (List.mem_of_getElem? (i := 1) rfl) rfl (val := .ref (gA g 61)) rfl dX6_load_20 ?_
        refine lv_iload_n C.1.1 C.1.2.1 dX6_load_23 rfl (lv_at hl 1 rfl) ?_
        refine r_iald C hP 61 (Nat.lt_of_lt_of_le (by decide) hn) rfl jx rfl (N := 4) rfl (by decide) (by omega) dX6_load_24 ?_
        refine lv_topE (nI Z) (by rw [upw_ne _ _ (by decide)]; exact eZ) ?_
        refine lv_icmp_ge (tgt := 78) C.1.1 C.1.2.1 dX6_load_25 (by decide) (fun c_2 => ?_) (fun c_2 => ?_)
        · rw [show (nI Z ≤ nI i) = (Z ≤ i) from propext (nI_leI (a := Z) (b := i) (by omega) (by omega))] at c_2
          refine lv_iload_n C.1.1 C.1.2.1 dX6_load_78 rfl (lv_at hl 3 rfl) ?_
          exact t_F C rfl hP hS (by rw [loadM, nM_eq hM, if_pos c_1, tn_nI (show jx < 2 ^ 31 by omega), eZ, tn_nI (show Z < 2 ^ 31 by omega), show lk (fun t => ¬ (t < N ∧ ∃ j : Nat, j < 4096 ∧ v.1 62 (40 * jx + t) = nI j)) Z 0 = i from (lk_no (P := (fun t => ¬ (t < N ∧ ∃ j : Nat, j < 4096 ∧ v.1 62 (40 * jx + t) = nI j))) Z 0 (fun t _ b => hno t (by omega))).trans (by omega)]) (by rw [loadM, nM_eq hM, if_pos c_1, tn_nI (show jx < 2 ^ 31 by omega), eZ, tn_nI (show Z < 2 ^ 31 by omega), show lk (fun t => ¬ (t < N ∧ ∃ j : Nat, j < 4096 ∧ v.1 62 (40 * jx + t) = nI j)) Z 0 = i from (lk_no (P := (fun t => ¬ (t < N ∧ ∃ j : Nat, j < 4096 ∧ v.1 62 (40 * jx + t) = nI j))) Z 0 (fun t _ b => hno t (by omega))).trans (by omega)]) dX6_load_79
        · rw [show (nI Z ≤ nI i) = (Z ≤ i) from propext (nI_leI (a := Z) (b := i) (by omega) (by omega))] at c_2
          refine lv_iload_n C.1.1 C.1.2.1 dX6_load_28 rfl (lv_at hl 3 rfl) ?_
          refine lv_aload_n C.1.1 C.1.2.1 dX6_load_29 rfl (lv_at hl 0 rfl) ?_
          refine r_get C hP 53 6 (Nat.lt_of_lt_of_le (by decide) hn) rfl (by decide) rfl hi6 0 (by decide) (List.mem_of_getElem? (i := 2) rfl) rfl (val := .ref (gA g 54)) rfl dX6_load_30 ?_
          refine lv_iconst (v := 0) C.1.1 C.1.2.1 dX6_load_33 rfl ?_
          refine r_iald C hP 54 (Nat.lt_of_lt_of_le (by decide) hn) rfl 0 rfl (N := 83) rfl (by decide) (by omega) dX6_load_34 ?_
          refine lv_topE (nI N) (by rw [upw_same, ldM_lo (by decide)]; exact hM.2.1) ?_
          refine lv_icmp_ge (tgt := 78) C.1.1 C.1.2.1 dX6_load_35 (by decide) (fun c_3 => ?_) (fun c_3 => ?_)
          · rw [show (nI N ≤ nI i) = (N ≤ i) from propext (nI_leI (a := N) (b := i) (by omega) (by omega))] at c_3
            refine lv_iload_n C.1.1 C.1.2.1 dX6_load_78 rfl (lv_at hl 3 rfl) ?_
            exact t_F C rfl hP hS (by rw [loadM, nM_eq hM, if_pos c_1, tn_nI (show jx < 2 ^ 31 by omega), eZ, tn_nI (show Z < 2 ^ 31 by omega), lk_yes (P := (fun t => ¬ (t < N ∧ ∃ j : Nat, j < 4096 ∧ v.1 62 (40 * jx + t) = nI j))) Z 0 i (Nat.zero_le _) (by omega) (fun t _ b => hno t b) (fun h => absurd h.1 (by omega))]) (by rw [loadM, nM_eq hM, if_pos c_1, tn_nI (show jx < 2 ^ 31 by omega), eZ, tn_nI (show Z < 2 ^ 31 by omega), lk_yes (P := (fun t => ¬ (t < N ∧ ∃ j : Nat, j < 4096 ∧ v.1 62 (40 * jx + t) = nI j))) Z 0 i (Nat.zero_le _) (by omega) (fun t _ b => hno t b) (fun h => absurd h.1 (by omega))]) dX6_load_79
          · rw [show (nI N ≤ nI i) = (N ≤ i) from propext (nI_leI (a := N) (b := i) (by omega) (by omega))] at c_3
            refine lv_aload_n C.1.1 C.1.2.1 dX6_load_38 rfl (lv_at hl 0 rfl) ?_
            refine r_get C hP 53 6 (Nat.lt_of_lt_of_le (by decide) hn) rfl (by decide) rfl hi6 15 (by decide) (List.mem_of_getElem? (i := 3) rfl) rfl (val := .ref (gA g 62)) rfl dX6_load_39 ?_
            refine lv_bipush (v := 40) C.1.1 C.1.2.1 dX6_load_42 rfl ?_
            refine lv_iload_n C.1.1 C.1.2.1 dX6_load_44 rfl (lv_at hl 1 rfl) ?_
            refine lv_imul C.1.1 C.1.2.1 dX6_load_45 ?_
            refine lv_topE (nI (40 * jx)) (pk_mul 40 jx) ?_
            refine lv_iload_n C.1.1 C.1.2.1 dX6_load_46 rfl (lv_at hl 3 rfl) ?_
            refine lv_iadd C.1.1 C.1.2.1 dX6_load_47 ?_
            refine lv_topE (nI ((40 * jx) + i)) (nI_add (40 * jx) i) ?_
            refine r_iald C hP 62 (Nat.lt_of_lt_of_le (by decide) hn) rfl ((40 * jx) + i) rfl (N := 160) rfl (by decide) (by omega) dX6_load_48 ?_
            refine lv_topE (v.1 62 (40 * jx + i)) (by rw [upw_ne _ _ (by decide)]) ?_
            refine a_B hS (run_S C hP hS hl.1 [.int (v.1 62 (40 * jx + i))] (kX6_areGoods l g n (upw v 54 (ldM (v.1 54) (v.1 62) jx i)) (v.1 62 (40 * jx + i))) gX6_load_X6_areGoods hdX6_areGoods rfl ⟨rfl, rfl⟩ ⟨Nat.le_of_ble_eq_true rfl, Nat.le_of_ble_eq_true rfl⟩ rfl [] rfl (Nat.le_of_ble_eq_true rfl) dX6_load_49 ⟨Nat.zero_le _, Nat.zero_le _⟩) (fun b_4 H locs hP hS => ?_) (fun b_4 H locs hP hS => ?_)
            · skip
              refine lv_if_eq (tgt := 78) C.1.1 C.1.2.1 dX6_load_52 (by decide) (fun c_5 => absurd c_5 (by decide)) (fun _ => ?_)
              refine lv_aload_n C.1.1 C.1.2.1 dX6_load_55 rfl (lv_at hl 0 rfl) ?_
              refine lv_iload_n C.1.1 C.1.2.1 dX6_load_56 rfl (lv_at hl 3 rfl) ?_
              refine lv_iconst (v := 2) C.1.1 C.1.2.1 dX6_load_57 rfl ?_
              refine lv_aload_n C.1.1 C.1.2.1 dX6_load_58 rfl (lv_at hl 0 rfl) ?_
              refine r_get C hP 53 6 (Nat.lt_of_lt_of_le (by decide) hn) rfl (by decide) rfl hi6 15 (by decide) (List.mem_of_getElem? (i := 3) rfl) rfl (val := .ref (gA g 62)) rfl dX6_load_59 ?_
              refine lv_bipush (v := 40) C.1.1 C.1.2.1 dX6_load_62 rfl ?_
              refine lv_iload_n C.1.1 C.1.2.1 dX6_load_64 rfl (lv_at hl 1 rfl) ?_
              refine lv_imul C.1.1 C.1.2.1 dX6_load_65 ?_
              refine lv_topE (nI (40 * jx)) (pk_mul 40 jx) ?_
              refine lv_iload_n C.1.1 C.1.2.1 dX6_load_66 rfl (lv_at hl 3 rfl) ?_
              refine lv_iadd C.1.1 C.1.2.1 dX6_load_67 ?_
              refine lv_topE (nI ((40 * jx) + i)) (nI_add (40 * jx) i) ?_
              refine r_iald C hP 62 (Nat.lt_of_lt_of_le (by decide) hn) rfl ((40 * jx) + i) rfl (N := 160) rfl (by decide) (by omega) dX6_load_68 ?_
              refine lv_topE (v.1 62 (40 * jx + i)) (by rw [upw_ne _ _ (by decide)]) ?_
              refine a_G hS (run_V C hP hS hl.1 53 6 (Nat.lt_of_lt_of_le (by decide) hn) rfl (by decide) rfl [.int (nI i), .int 2, .int (v.1 62 (40 * jx + i))] (kX6_sets l g n (upw v 54 (ldM (v.1 54) (v.1 62) jx i)) i 2 (v.1 62 (40 * jx + i)) (by omega) (by omega)) gX6_load_X6_sets rfl hdX6_sets rfl ⟨rfl, rfl⟩ ⟨Nat.le_of_ble_eq_true rfl, Nat.le_of_ble_eq_true rfl⟩ rfl [] rfl (Nat.le_of_ble_eq_true rfl) dX6_load_69 ⟨Nat.zero_le _, Nat.zero_le _⟩) (fun H locs hP hS => ?_)
              obtain ⟨v_6, hv_6⟩ : ∃ zz, zz = up (upw v 54 (ldM (v.1 54) (v.1 62) jx i)) 54 (25 + 8 * 2 + i) (v.1 62 (40 * jx + i)) := ⟨_, rfl⟩
              rw [← hv_6] at hP
              refine lv_iinc (v := nI (i + 1)) (lv' := [(3, .int (nI (i + 1))), (0, .ref (gA g 53)), (1, .int (nI jx)), (2, .int (whyF v (nI jx)))]) C.1.1 C.1.2.1 dX6_load_72 hl (k := 3) rfl (nI_1 i) (by decide) rfl (fun ls hl => ?_)
              refine lv_goto (tgt := 18) C.1.1 C.1.2.1 dX6_load_75 (by decide) ?_
              exact ih_18 (i + 1) (by omega) (by omega) _ _ _ (fun t ht => if h9 : t < i then hno t h9 else by rw [show t = i by omega]; exact fun h => h ⟨by omega, b_4⟩) (by rw [hv_6, upw_up] at hP; exact hP) hS (lv_sub hl [1, 2, 3, 0] rfl)
            · skip
              refine lv_if_eq (tgt := 78) C.1.1 C.1.2.1 dX6_load_52 (by decide) (fun _ => ?_) (fun c_7 => absurd c_7 (by decide))
              refine lv_iload_n C.1.1 C.1.2.1 dX6_load_78 rfl (lv_at hl 3 rfl) ?_
              exact t_F C rfl hP hS (by rw [loadM, nM_eq hM, if_pos c_1, tn_nI (show jx < 2 ^ 31 by omega), eZ, tn_nI (show Z < 2 ^ 31 by omega), lk_yes (P := (fun t => ¬ (t < N ∧ ∃ j : Nat, j < 4096 ∧ v.1 62 (40 * jx + t) = nI j))) Z 0 i (Nat.zero_le _) (by omega) (fun t _ b => hno t b) (fun h => b_4 h.2)]) (by rw [loadM, nM_eq hM, if_pos c_1, tn_nI (show jx < 2 ^ 31 by omega), eZ, tn_nI (show Z < 2 ^ 31 by omega), lk_yes (P := (fun t => ¬ (t < N ∧ ∃ j : Nat, j < 4096 ∧ v.1 62 (40 * jx + t) = nI j))) Z 0 i (Nat.zero_le _) (by omega) (fun t _ b => hno t b) (fun h => b_4 h.2)]) dX6_load_79
    exact lp_18 (Z + 1) 0 (Nat.zero_le _) (by omega) _ _ _ (fun t ht => absurd ht (Nat.not_lt_zero t)) (by rw [show ldM (v.1 54) (v.1 62) jx 0 = v.1 54 from rfl, upw_self]; exact hP) hS (lv_sub hl [2, 3, 1, 0] rfl)
  · skip
    obtain ⟨jw, hjw, ew⟩ := why_no c_1
    rw [ew] at hl
    refine lv_aload_n C.1.1 C.1.2.1 dX6_load_10 rfl (lv_at hl 1 rfl) ?_
    refine lv_iload_n C.1.1 C.1.2.1 dX6_load_11 rfl (lv_at hl 0 rfl) ?_
    refine a_F hS (run_V C hP hS hl.1 53 6 (Nat.lt_of_lt_of_le (by decide) hn) rfl (by decide) rfl [.int (nI jw)] (kX6_finds l g n v jw (by omega)) gX6_load_X6_finds rfl hdX6_finds rfl ⟨rfl, rfl⟩ ⟨Nat.le_of_ble_eq_true rfl, Nat.le_of_ble_eq_true rfl⟩ rfl [] rfl (Nat.le_of_ble_eq_true rfl) dX6_load_12 ⟨Nat.zero_le _, Nat.zero_le _⟩) (fun H locs hP hS => ?_)
    obtain ⟨v_8, hv_8⟩ : ∃ zz, zz = fnd v jw := ⟨_, rfl⟩
    rw [← hv_8] at hP
    exact t_F C rfl hP hS (by rw [loadM, if_neg c_1, ew, fdW, tn_nI (show jw < 2 ^ 31 by omega)]; rfl) (by rw [loadM, if_neg c_1, ew, fdW, tn_nI (show jw < 2 ^ 31 by omega), hv_8]; rfl) dX6_load_15

