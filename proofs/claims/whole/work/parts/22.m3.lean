abbrev rmX6_isSet : Room := { frames := 2, cells := 0, slots := 0, locals := 45 }
set_option maxHeartbeats 4000000 in
set_option maxRecDepth 100000 in
theorem kX6_isSet (l : Launch) (g : GG) (n : Nat) (v : SV) (x y : Int32) : Met l yX6_isSet wsX6_isSet rmX6_isSet (PW g n v [.int x, .int y]) (QB g n (setP x y) v) 0 0 (wA g n) := by
  refine Met.begin RX6 rfl (by decide) rfl (Nat.le_of_ble_eq_true rfl) ?_
  intro p e s m args below meth c ls ha C hP hS hl
  have hn : 64 ≤ n := C.2.1.1.2.1
  have hl : lv_has ls 2 [(0, .int x), (1, .int y)] := hl
  refine lv_iload_n C.1.1 C.1.2.1 dX6_isSet_0 rfl (lv_at hl 0 rfl) ?_
  refine lv_if_ne (tgt := 11) C.1.1 C.1.2.1 dX6_isSet_1 (by decide) (fun c_1 => ?_) (fun c_1 => ?_)
  · skip
    refine lv_iload_n C.1.1 C.1.2.1 dX6_isSet_11 rfl (lv_at hl 0 rfl) ?_
    refine lv_iconst (v := 1) C.1.1 C.1.2.1 dX6_isSet_12 rfl ?_
    refine lv_icmp_ne (tgt := 28) C.1.1 C.1.2.1 dX6_isSet_13 (by decide) (fun c_2 => ?_) (fun c_2 => ?_)
    · skip
      refine lv_iload_n C.1.1 C.1.2.1 dX6_isSet_28 rfl (lv_at hl 0 rfl) ?_
      refine lv_iconst (v := 2) C.1.1 C.1.2.1 dX6_isSet_29 rfl ?_
      refine lv_icmp_ne (tgt := 49) C.1.1 C.1.2.1 dX6_isSet_30 (by decide) (fun c_3 => ?_) (fun c_3 => ?_)
      · skip
        refine lv_iconst (v := 0) C.1.1 C.1.2.1 dX6_isSet_49 rfl ?_
        exact t_0 C rfl hP hS (by unfold setP; rw [if_neg c_1, if_neg c_2, if_neg c_3]; exact id) rfl dX6_isSet_50
      · skip
        refine lv_iload_n C.1.1 C.1.2.1 dX6_isSet_33 rfl (lv_at hl 1 rfl) ?_
        refine lv_i2l (v := y.toInt64) C.1.1 C.1.2.1 dX6_isSet_34 rfl ?_
        refine lv_lconst (v := 0) C.1.1 C.1.2.1 dX6_isSet_35 rfl ?_
        refine lv_ldc2 (v := 9) C.1.1 C.1.2.1 C.1.2.2.2.1 (C.1.2.2.2.2 _ (List.mem_of_getElem? (i := 2) rfl)) dX6_isSet_36 ?_
        refine a_B hS (run_S C hP hS hl.1 [.long y.toInt64, .long 0, .long 9] (kX6_in l g n v y.toInt64 0 9) gX6_isSet_X6_in hdX6_in rfl ⟨rfl, rfl⟩ ⟨Nat.le_of_ble_eq_true rfl, Nat.le_of_ble_eq_true rfl⟩ rfl [] rfl (Nat.le_of_ble_eq_true rfl) dX6_isSet_39 ⟨Nat.zero_le _, Nat.zero_le _⟩) (fun b_4 H locs hP hS => ?_) (fun b_4 H locs hP hS => ?_)
        · skip
          have b_4 := (in_iff 10 (by decide) (by decide)).mp b_4
          refine lv_if_eq (tgt := 49) C.1.1 C.1.2.1 dX6_isSet_42 (by decide) (fun c_5 => absurd c_5 (by decide)) (fun _ => ?_)
          refine lv_iconst (v := 1) C.1.1 C.1.2.1 dX6_isSet_45 rfl ?_
          refine lv_goto (tgt := 50) C.1.1 C.1.2.1 dX6_isSet_46 (by decide) ?_
          exact t_1 C rfl hP hS (by unfold setP; rw [if_neg c_1, if_neg c_2, if_pos c_3]; exact b_4) rfl dX6_isSet_50
        · skip
          have b_4 := fun h => b_4 ((in_iff 10 (by decide) (by decide)).mpr h)
          refine lv_if_eq (tgt := 49) C.1.1 C.1.2.1 dX6_isSet_42 (by decide) (fun _ => ?_) (fun c_6 => absurd c_6 (by decide))
          refine lv_iconst (v := 0) C.1.1 C.1.2.1 dX6_isSet_49 rfl ?_
          exact t_0 C rfl hP hS (by unfold setP; rw [if_neg c_1, if_neg c_2, if_pos c_3]; exact b_4) rfl dX6_isSet_50
    · skip
      refine lv_iload_n C.1.1 C.1.2.1 dX6_isSet_16 rfl (lv_at hl 1 rfl) ?_
      refine lv_i2l (v := y.toInt64) C.1.1 C.1.2.1 dX6_isSet_17 rfl ?_
      refine lv_lconst (v := 0) C.1.1 C.1.2.1 dX6_isSet_18 rfl ?_
      refine lv_ldc2 (v := 5) C.1.1 C.1.2.1 C.1.2.2.2.1 (C.1.2.2.2.2 _ (List.mem_of_getElem? (i := 1) rfl)) dX6_isSet_19 ?_
      refine a_B hS (run_S C hP hS hl.1 [.long y.toInt64, .long 0, .long 5] (kX6_in l g n v y.toInt64 0 5) gX6_isSet_X6_in hdX6_in rfl ⟨rfl, rfl⟩ ⟨Nat.le_of_ble_eq_true rfl, Nat.le_of_ble_eq_true rfl⟩ rfl [] rfl (Nat.le_of_ble_eq_true rfl) dX6_isSet_22 ⟨Nat.zero_le _, Nat.zero_le _⟩) (fun b_7 H locs hP hS => ?_) (fun b_7 H locs hP hS => ?_)
      · skip
        have b_7 := (in_iff 6 (by decide) (by decide)).mp b_7
        refine lv_goto (tgt := 50) C.1.1 C.1.2.1 dX6_isSet_25 (by decide) ?_
        exact t_1 C rfl hP hS (by unfold setP; rw [if_neg c_1, if_pos c_2]; exact b_7) rfl dX6_isSet_50
      · skip
        have b_7 := fun h => b_7 ((in_iff 6 (by decide) (by decide)).mpr h)
        refine lv_goto (tgt := 50) C.1.1 C.1.2.1 dX6_isSet_25 (by decide) ?_
        exact t_0 C rfl hP hS (by unfold setP; rw [if_neg c_1, if_pos c_2]; exact b_7) rfl dX6_isSet_50
  · skip
    refine lv_iload_n C.1.1 C.1.2.1 dX6_isSet_4 rfl (lv_at hl 1 rfl) ?_
    refine a_B hS (run_S C hP hS hl.1 [.int y] (kX6_isDoor l g n v y) gX6_isSet_X6_isDoor hdX6_isDoor rfl ⟨rfl, rfl⟩ ⟨Nat.le_of_ble_eq_true rfl, Nat.le_of_ble_eq_true rfl⟩ rfl [] rfl (Nat.le_of_ble_eq_true rfl) dX6_isSet_5 ⟨Nat.zero_le _, Nat.zero_le _⟩) (fun b_8 H locs hP hS => ?_) (fun b_8 H locs hP hS => ?_)
    · skip
      refine lv_goto (tgt := 50) C.1.1 C.1.2.1 dX6_isSet_8 (by decide) ?_
      exact t_1 C rfl hP hS (by unfold setP; rw [if_pos c_1]; exact b_8) rfl dX6_isSet_50
    · skip
      refine lv_goto (tgt := 50) C.1.1 C.1.2.1 dX6_isSet_8 (by decide) ?_
      exact t_0 C rfl hP hS (by unfold setP; rw [if_pos c_1]; exact b_8) rfl dX6_isSet_50

abbrev rmX6_sumOf : Room := { frames := 1, cells := 0, slots := 0, locals := 22 }
set_option maxHeartbeats 4000000 in
set_option maxRecDepth 100000 in
theorem kX6_sumOf (l : Launch) (g : GG) (n : Nat) (v : SV) (w : Nat) (hw : w < 6) (N : Nat) (hM : okM (v.1 54) N) : Met l yX6_sumOf wsX6_sumOf rmX6_sumOf (PW g n v [.ref (gA g 53), .int (nI w)]) (QF g n (sumM (v.1 54) w N) v) 0 0 (wA g n) := by
  refine Met.begin RX6 rfl (by decide) rfl (Nat.le_of_ble_eq_true rfl) ?_
  intro p e s m args below meth c ls ha C hP hS hl
  have hn : 64 ≤ n := C.2.1.1.2.1
  have hi6 : ∀ w ∈ u_ws RX6 TX6 17, w ∈ wsX6_sumOf := by decide +kernel
  have hl : lv_has ls 4 [(0, .ref (gA g 53)), (1, .int (nI w))] := hl
  have h8 := hM.1
  refine lv_iconst (v := 0) C.1.1 C.1.2.1 dX6_sumOf_0 rfl ?_
  refine lv_istore_n (lv' := [(2, .int 0), (0, .ref (gA g 53)), (1, .int (nI w))]) C.1.1 C.1.2.1 dX6_sumOf_1 rfl hl (by decide) rfl (fun ls hl => ?_)
  refine lv_iconst (v := 0) C.1.1 C.1.2.1 dX6_sumOf_2 rfl ?_
  refine lv_istore_n (lv' := [(3, .int 0), (2, .int 0), (0, .ref (gA g 53)), (1, .int (nI w))]) C.1.1 C.1.2.1 dX6_sumOf_3 rfl hl (by decide) rfl (fun ls hl => ?_)
  have lp_4 : ∀ (k_4 i : Nat), i ≤ N → N + 1 ≤ i + k_4 → ∀ (H : Heap) (locs : List Loc) (ls : Array Slot), va_P g.1 vwCl (wl g n v) H → va_S (wA g n) s.heap H locs → lv_has ls 4 [(0, .ref (gA g 53)), (1, .int (nI w)), (2, .int (sumM (v.1 54) w i)), (3, .int (nI i))] → W p l e rmX6_sumOf s m args below meth c H locs 0 0 (MQ below (QF g n (sumM (v.1 54) w N) v) args s 0 0 (wA g n)) (F0 m 4 ls []) := by
    clear hP hS hl
    intro k_4
    induction k_4 with
    | zero => exact fun i h1 h2 => absurd h2 (by omega)
    | succ k_4 ih_4 =>
      intro i hi_4 hk_4 H locs ls hP hS hl
      refine lv_iload_n C.1.1 C.1.2.1 dX6_sumOf_4 rfl (lv_at hl 3 rfl) ?_
      refine lv_aload_n C.1.1 C.1.2.1 dX6_sumOf_5 rfl (lv_at hl 0 rfl) ?_
      refine r_get C hP 53 6 (Nat.lt_of_lt_of_le (by decide) hn) rfl (by decide) rfl hi6 0 (by decide) (List.mem_of_getElem? (i := 1) rfl) rfl (val := .ref (gA g 54)) rfl dX6_sumOf_6 ?_
      refine lv_iconst (v := 0) C.1.1 C.1.2.1 dX6_sumOf_9 rfl ?_
      refine r_iald C hP 54 (Nat.lt_of_lt_of_le (by decide) hn) rfl 0 rfl (N := 83) rfl (by decide) (by omega) dX6_sumOf_10 ?_
      refine lv_topE (nI N) hM.2.1 ?_
      refine lv_icmp_ge (tgt := 29) C.1.1 C.1.2.1 dX6_sumOf_11 (by decide) (fun c_1 => ?_) (fun c_1 => ?_)
      · rw [show (nI N ≤ nI i) = (N ≤ i) from propext (nI_leI (a := N) (b := i) (by omega) (by omega))] at c_1
        have hiN : i = N := by omega
        refine lv_iload_n C.1.1 C.1.2.1 dX6_sumOf_29 rfl (lv_at hl 2 rfl) ?_
        exact t_F C rfl hP hS (by rw [hiN]) rfl dX6_sumOf_30
      · rw [show (nI N ≤ nI i) = (N ≤ i) from propext (nI_leI (a := N) (b := i) (by omega) (by omega))] at c_1
        refine lv_iload_n C.1.1 C.1.2.1 dX6_sumOf_14 rfl (lv_at hl 2 rfl) ?_
        refine lv_aload_n C.1.1 C.1.2.1 dX6_sumOf_15 rfl (lv_at hl 0 rfl) ?_
        refine lv_iload_n C.1.1 C.1.2.1 dX6_sumOf_16 rfl (lv_at hl 3 rfl) ?_
        refine lv_iload_n C.1.1 C.1.2.1 dX6_sumOf_17 rfl (lv_at hl 1 rfl) ?_
        refine a_F hS (run_V C hP hS hl.1 53 6 (Nat.lt_of_lt_of_le (by decide) hn) rfl (by decide) rfl [.int (nI i), .int (nI w)] (kX6_its l g n v i w (by omega) (by omega)) gX6_sumOf_X6_its rfl hdX6_its rfl ⟨rfl, rfl⟩ ⟨Nat.le_of_ble_eq_true rfl, Nat.le_of_ble_eq_true rfl⟩ rfl [.int (sumM (v.1 54) w i)] rfl (Nat.le_of_ble_eq_true rfl) dX6_sumOf_18 ⟨Nat.zero_le _, Nat.zero_le _⟩) (fun H locs hP hS => ?_)
        refine lv_iadd C.1.1 C.1.2.1 dX6_sumOf_21 ?_
        refine lv_istore_n (lv' := [(2, .int ((sumM (v.1 54) w i) + (rowM (v.1 54) i w))), (0, .ref (gA g 53)), (1, .int (nI w)), (3, .int (nI i))]) C.1.1 C.1.2.1 dX6_sumOf_22 rfl hl (by decide) rfl (fun ls hl => ?_)
        refine lv_iinc (v := nI (i + 1)) (lv' := [(3, .int (nI (i + 1))), (2, .int ((sumM (v.1 54) w i) + (rowM (v.1 54) i w))), (0, .ref (gA g 53)), (1, .int (nI w))]) C.1.1 C.1.2.1 dX6_sumOf_23 hl (k := 3) rfl (nI_1 i) (by decide) rfl (fun ls hl => ?_)
        refine lv_goto (tgt := 4) C.1.1 C.1.2.1 dX6_sumOf_26 (by decide) ?_
        exact ih_4 (i + 1) (by omega) (by omega) _ _ _ hP hS (lv_sub hl [2, 3, 1, 0] rfl)
  exact lp_4 (N + 1) 0 (Nat.zero_le _) (by omega) _ _ _ hP hS (lv_sub hl [2, 3, 1, 0] rfl)

abbrev rmX6_wanted : Room := { frames := 1, cells := 0, slots := 0, locals := 22 }
set_option maxHeartbeats 4000000 in
set_option maxRecDepth 100000 in
theorem kX6_wanted (l : Launch) (g : GG) (n : Nat) (v : SV) (N : Nat) (hM : okM (v.1 54) N) : Met l yX6_wanted wsX6_wanted rmX6_wanted (PW g n v [.ref (gA g 53)]) (QF g n (wantedM (v.1 54) N) v) 0 0 (wA g n) := by
  refine Met.begin RX6 rfl (by decide) rfl (Nat.le_of_ble_eq_true rfl) ?_
  intro p e s m args below meth c ls ha C hP hS hl
  have hn : 64 ≤ n := C.2.1.1.2.1
  have hi6 : ∀ w ∈ u_ws RX6 TX6 17, w ∈ wsX6_wanted := by decide +kernel
  have hl : lv_has ls 3 [(0, .ref (gA g 53))] := hl
  have h8 := hM.1
  refine lv_iconst (v := 0) C.1.1 C.1.2.1 dX6_wanted_0 rfl ?_
  refine lv_istore_n (lv' := [(1, .int 0), (0, .ref (gA g 53))]) C.1.1 C.1.2.1 dX6_wanted_1 rfl hl (by decide) rfl (fun ls hl => ?_)
  refine lv_iconst (v := 0) C.1.1 C.1.2.1 dX6_wanted_2 rfl ?_
  refine lv_istore_n (lv' := [(2, .int 0), (1, .int 0), (0, .ref (gA g 53))]) C.1.1 C.1.2.1 dX6_wanted_3 rfl hl (by decide) rfl (fun ls hl => ?_)
  have lp_4 : ∀ (k_4 i : Nat), i ≤ N → N + 1 ≤ i + k_4 → ∀ (H : Heap) (locs : List Loc) (ls : Array Slot), va_P g.1 vwCl (wl g n v) H → va_S (wA g n) s.heap H locs → lv_has ls 3 [(0, .ref (gA g 53)), (1, .int (wantedM (v.1 54) i)), (2, .int (nI i))] → W p l e rmX6_wanted s m args below meth c H locs 0 0 (MQ below (QF g n (wantedM (v.1 54) N) v) args s 0 0 (wA g n)) (F0 m 4 ls []) := by
    clear hP hS hl
    intro k_4
    induction k_4 with
    | zero => exact fun i h1 h2 => absurd h2 (by omega)
    | succ k_4 ih_4 =>
      intro i hi_4 hk_4 H locs ls hP hS hl
      refine lv_iload_n C.1.1 C.1.2.1 dX6_wanted_4 rfl (lv_at hl 2 rfl) ?_
      refine lv_aload_n C.1.1 C.1.2.1 dX6_wanted_5 rfl (lv_at hl 0 rfl) ?_
      refine r_get C hP 53 6 (Nat.lt_of_lt_of_le (by decide) hn) rfl (by decide) rfl hi6 0 (by decide) (List.mem_of_getElem? (i := 1) rfl) rfl (val := .ref (gA g 54)) rfl dX6_wanted_6 ?_
      refine lv_iconst (v := 0) C.1.1 C.1.2.1 dX6_wanted_9 rfl ?_
      refine r_iald C hP 54 (Nat.lt_of_lt_of_le (by decide) hn) rfl 0 rfl (N := 83) rfl (by decide) (by omega) dX6_wanted_10 ?_
      refine lv_topE (nI N) hM.2.1 ?_
      refine lv_icmp_ge (tgt := 29) C.1.1 C.1.2.1 dX6_wanted_11 (by decide) (fun c_1 => ?_) (fun c_1 => ?_)
      · rw [show (nI N ≤ nI i) = (N ≤ i) from propext (nI_leI (a := N) (b := i) (by omega) (by omega))] at c_1
        have hiN : i = N := by omega
        refine lv_iload_n C.1.1 C.1.2.1 dX6_wanted_29 rfl (lv_at hl 1 rfl) ?_
        exact t_F C rfl hP hS (by rw [hiN]) rfl dX6_wanted_30
      · rw [show (nI N ≤ nI i) = (N ≤ i) from propext (nI_leI (a := N) (b := i) (by omega) (by omega))] at c_1
        refine lv_iload_n C.1.1 C.1.2.1 dX6_wanted_14 rfl (lv_at hl 1 rfl) ?_
        refine lv_aload_n C.1.1 C.1.2.1 dX6_wanted_15 rfl (lv_at hl 0 rfl) ?_
        refine lv_iload_n C.1.1 C.1.2.1 dX6_wanted_16 rfl (lv_at hl 2 rfl) ?_
        refine lv_iconst (v := 2) C.1.1 C.1.2.1 dX6_wanted_17 rfl ?_
        refine a_F hS (run_V C hP hS hl.1 53 6 (Nat.lt_of_lt_of_le (by decide) hn) rfl (by decide) rfl [.int (nI i), .int 2] (kX6_its l g n v i 2 (by omega) (by omega)) gX6_wanted_X6_its rfl hdX6_its rfl ⟨rfl, rfl⟩ ⟨Nat.le_of_ble_eq_true rfl, Nat.le_of_ble_eq_true rfl⟩ rfl [.int (wantedM (v.1 54) i)] rfl (Nat.le_of_ble_eq_true rfl) dX6_wanted_18 ⟨Nat.zero_le _, Nat.zero_le _⟩) (fun H locs hP hS => ?_)
        refine lv_ior C.1.1 C.1.2.1 dX6_wanted_21 ?_
        refine lv_istore_n (lv' := [(1, .int ((wantedM (v.1 54) i) ||| (rowM (v.1 54) i 2))), (0, .ref (gA g 53)), (2, .int (nI i))]) C.1.1 C.1.2.1 dX6_wanted_22 rfl hl (by decide) rfl (fun ls hl => ?_)
        refine lv_iinc (v := nI (i + 1)) (lv' := [(2, .int (nI (i + 1))), (1, .int ((wantedM (v.1 54) i) ||| (rowM (v.1 54) i 2))), (0, .ref (gA g 53))]) C.1.1 C.1.2.1 dX6_wanted_23 hl (k := 2) rfl (nI_1 i) (by decide) rfl (fun ls hl => ?_)
        refine lv_goto (tgt := 4) C.1.1 C.1.2.1 dX6_wanted_26 (by decide) ?_
        exact ih_4 (i + 1) (by omega) (by omega) _ _ _ hP hS (lv_sub hl [2, 1, 0] rfl)
  exact lp_4 (N + 1) 0 (Nat.zero_le _) (by omega) _ _ _ hP hS (lv_sub hl [2, 1, 0] rfl)

abbrev rmX6_registered : Room := { frames := 0, cells := 0, slots := 0, locals := 0 }
set_option maxHeartbeats 4000000 in
set_option maxRecDepth 100000 in
theorem kX6_registered (l : Launch) (g : GG) (n : Nat) (v : SV) (b : Int32) : Met l yX6_registered wsX6_registered rmX6_registered (PW g n v [.ref (gA g 53), .int b]) (QF g n (regM (v.1 54) b) v) 0 0 (wA g n) := by
  refine Met.begin RX6 rfl (by decide) rfl (Nat.le_of_ble_eq_true rfl) ?_
  intro p e s m args below meth c ls ha C hP hS hl
  have hn : 64 ≤ n := C.2.1.1.2.1
  have hi6 : ∀ w ∈ u_ws RX6 TX6 17, w ∈ wsX6_registered := by decide +kernel
  have hl : lv_has ls 5 [(0, .ref (gA g 53)), (1, .int b)] := hl
  refine lv_iconst (v := 0) C.1.1 C.1.2.1 dX6_registered_0 rfl ?_
  refine lv_istore_n (lv' := [(2, .int 0), (0, .ref (gA g 53)), (1, .int b)]) C.1.1 C.1.2.1 dX6_registered_1 rfl hl (by decide) rfl (fun ls hl => ?_)
  refine lv_iconst (v := 0) C.1.1 C.1.2.1 dX6_registered_2 rfl ?_
  refine lv_istore_n (lv' := [(3, .int 0), (2, .int 0), (0, .ref (gA g 53)), (1, .int b)]) C.1.1 C.1.2.1 dX6_registered_3 rfl hl (by decide) rfl (fun ls hl => ?_)
  refine lv_iconst (v := 0) C.1.1 C.1.2.1 dX6_registered_4 rfl ?_
  refine lv_istore (lv' := [(4, .int 0), (3, .int 0), (2, .int 0), (0, .ref (gA g 53)), (1, .int b)]) C.1.1 C.1.2.1 dX6_registered_5 hl (by decide) rfl (fun ls hl => ?_)
  have lp_7 : ∀ (k_7 i : Nat), i ≤ 12 → 12 + 1 ≤ i + k_7 → ∀ (H : Heap) (locs : List Loc) (ls : Array Slot), va_P g.1 vwCl (wl g n v) H → va_S (wA g n) s.heap H locs → lv_has ls 5 [(0, .ref (gA g 53)), (1, .int b), (2, .int (rsetM (v.1 54) i)), (3, .int (rsumM (v.1 54) i)), (4, .int (nI i))] → W p l e rmX6_registered s m args below meth c H locs 0 0 (MQ below (QF g n (regM (v.1 54) b) v) args s 0 0 (wA g n)) (F0 m 7 ls []) := by
    clear hP hS hl
    intro k_7
    induction k_7 with
    | zero => exact fun i h1 h2 => absurd h2 (by omega)
    | succ k_7 ih_7 =>
      intro i hi_7 hk_7 H locs ls hP hS hl
      refine lv_iload C.1.1 C.1.2.1 dX6_registered_7 (lv_at hl 4 rfl) ?_
      refine lv_bipush (v := 12) C.1.1 C.1.2.1 dX6_registered_9 rfl ?_
      refine lv_icmp_ge (tgt := 57) C.1.1 C.1.2.1 dX6_registered_11 (by decide) (fun c_1 => ?_) (fun c_1 => ?_)
      · rw [show (12 ≤ nI i) = (12 ≤ i) from propext (nI_leI (a := 12) (b := i) (by omega) (by omega))] at c_1
        have hi12 : i = 12 := by omega
        subst hi12
        refine lv_iload_n C.1.1 C.1.2.1 dX6_registered_57 rfl (lv_at hl 1 rfl) ?_
        refine lv_if_eq (tgt := 65) C.1.1 C.1.2.1 dX6_registered_58 (by decide) (fun c_2 => ?_) (fun c_2 => ?_)
        · skip
          refine lv_iload_n C.1.1 C.1.2.1 dX6_registered_65 rfl (lv_at hl 2 rfl) ?_
          exact t_F C rfl hP hS (by simp [regM, c_1, c_2]) rfl dX6_registered_66
        · skip
          refine lv_iload_n C.1.1 C.1.2.1 dX6_registered_61 rfl (lv_at hl 3 rfl) ?_
          refine lv_goto (tgt := 66) C.1.1 C.1.2.1 dX6_registered_62 (by decide) ?_
          exact t_F C rfl hP hS (by simp [regM, c_1, c_2]) rfl dX6_registered_66
      · rw [show (12 ≤ nI i) = (12 ≤ i) from propext (nI_leI (a := 12) (b := i) (by omega) (by omega))] at c_1
        refine lv_iload_n C.1.1 C.1.2.1 dX6_registered_14 rfl (lv_at hl 3 rfl) ?_
        refine lv_aload_n C.1.1 C.1.2.1 dX6_registered_15 rfl (lv_at hl 0 rfl) ?_
        refine r_get C hP 53 6 (Nat.lt_of_lt_of_le (by decide) hn) rfl (by decide) rfl hi6 0 (by decide) (List.mem_of_getElem? (i := 1) rfl) rfl (val := .ref (gA g 54)) rfl dX6_registered_16 ?_
        refine lv_bipush (v := 13) C.1.1 C.1.2.1 dX6_registered_19 rfl ?_
        refine lv_iload C.1.1 C.1.2.1 dX6_registered_21 (lv_at hl 4 rfl) ?_
        refine lv_iadd C.1.1 C.1.2.1 dX6_registered_23 ?_
        refine lv_topE (nI (13 + i)) (nI_add 13 i) ?_
        refine r_iald C hP 54 (Nat.lt_of_lt_of_le (by decide) hn) rfl (13 + i) rfl (N := 83) rfl (by decide) (by omega) dX6_registered_24 ?_
        refine lv_iadd C.1.1 C.1.2.1 dX6_registered_25 ?_
        refine lv_istore_n (lv' := [(3, .int ((rsumM (v.1 54) i) + (v.1 54 (13 + i)))), (0, .ref (gA g 53)), (1, .int b), (2, .int (rsetM (v.1 54) i)), (4, .int (nI i))]) C.1.1 C.1.2.1 dX6_registered_26 rfl hl (by decide) rfl (fun ls hl => ?_)
        refine lv_iload_n C.1.1 C.1.2.1 dX6_registered_27 rfl (lv_at hl 3 rfl) ?_
        refine lv_aload_n C.1.1 C.1.2.1 dX6_registered_28 rfl (lv_at hl 1 rfl) ?_
        refine r_get C hP 53 6 (Nat.lt_of_lt_of_le (by decide) hn) rfl (by decide) rfl hi6 0 (by decide) (List.mem_of_getElem? (i := 1) rfl) rfl (val := .ref (gA g 54)) rfl dX6_registered_29 ?_
        refine lv_bipush (v := 13) C.1.1 C.1.2.1 dX6_registered_32 rfl ?_
        refine lv_iload C.1.1 C.1.2.1 dX6_registered_34 (lv_at hl 4 rfl) ?_
        refine lv_iadd C.1.1 C.1.2.1 dX6_registered_36 ?_
        refine lv_topE (nI (13 + i)) (nI_add 13 i) ?_
        refine r_iald C hP 54 (Nat.lt_of_lt_of_le (by decide) hn) rfl (13 + i) rfl (N := 83) rfl (by decide) (by omega) dX6_registered_37 ?_
        have jn_3 : ∀ (H : Heap) (locs : List Loc) (ls : Array Slot), va_P g.1 vwCl (wl g n v) H → va_S (wA g n) s.heap H locs → lv_has ls 5 [(3, .int ((rsumM (v.1 54) i) + (v.1 54 (13 + i)))), (0, .ref (gA g 53)), (1, .int b), (2, .int (rsetM (v.1 54) i)), (4, .int (nI i))] → W p l e rmX6_registered s m args below meth c H locs 0 0 (MQ below (QF g n (regM (v.1 54) b) v) args s 0 0 (wA g n)) (F0 m 49 ls [.int (if (v.1 54 (13 + i)) ≤ 0 then (0 : Int32) else 1 <<< (nI i &&& 31)), .int (rsetM (v.1 54) i)]) := by
          clear hP hS hl
          intro H locs ls hP hS hl
          refine lv_ior C.1.1 C.1.2.1 dX6_registered_49 ?_
          refine lv_istore_n (lv' := [(2, .int ((rsetM (v.1 54) i) ||| (if (v.1 54 (13 + i)) ≤ 0 then (0 : Int32) else 1 <<< (nI i &&& 31)))), (3, .int ((rsumM (v.1 54) i) + (v.1 54 (13 + i)))), (0, .ref (gA g 53)), (1, .int b), (4, .int (nI i))]) C.1.1 C.1.2.1 dX6_registered_50 rfl hl (by decide) rfl (fun ls hl => ?_)
          refine lv_iinc (v := nI (i + 1)) (lv' := [(4, .int (nI (i + 1))), (2, .int ((rsetM (v.1 54) i) ||| (if (v.1 54 (13 + i)) ≤ 0 then (0 : Int32) else 1 <<< (nI i &&& 31)))), (3, .int ((rsumM (v.1 54) i) + (v.1 54 (13 + i)))), (0, .ref (gA g 53)), (1, .int b)]) C.1.1 C.1.2.1 dX6_registered_51 hl (k := 4) rfl (nI_1 i) (by decide) rfl (fun ls hl => ?_)
          refine lv_goto (tgt := 7) C.1.1 C.1.2.1 dX6_registered_54 (by decide) ?_
          exact ih_7 (i + 1) (by omega) (by omega) _ _ _ hP hS (lv_sub hl [3, 4, 1, 2, 0] rfl)
        refine lv_if_le (tgt := 48) C.1.1 C.1.2.1 dX6_registered_38 (by decide) (fun c_4 => ?_) (fun c_4 => ?_)
        · skip
          refine lv_iconst (v := 0) C.1.1 C.1.2.1 dX6_registered_48 rfl ?_
          exact lv_topE (if (v.1 54 (13 + i)) ≤ 0 then (0 : Int32) else 1 <<< (nI i &&& 31)) (by simp only [c_1, c_4, if_true, if_false, ite_true, ite_false]) (jn_3 _ _ _ hP hS (lv_sub hl [0, 1, 2, 3, 4] rfl))
        · skip
          refine lv_iconst (v := 1) C.1.1 C.1.2.1 dX6_registered_41 rfl ?_
          refine lv_iload C.1.1 C.1.2.1 dX6_registered_42 (lv_at hl 4 rfl) ?_
          refine lv_ishl C.1.1 C.1.2.1 dX6_registered_44 ?_
          refine lv_goto (tgt := 49) C.1.1 C.1.2.1 dX6_registered_45 (by decide) ?_
          exact lv_topE (if (v.1 54 (13 + i)) ≤ 0 then (0 : Int32) else 1 <<< (nI i &&& 31)) (by simp only [c_1, c_4, if_true, if_false, ite_true, ite_false]) (jn_3 _ _ _ hP hS (lv_sub hl [0, 1, 2, 3, 4] rfl))
  exact lp_7 (12 + 1) 0 (Nat.zero_le _) (by omega) _ _ _ hP hS (lv_sub hl [3, 4, 2, 1, 0] rfl)

abbrev rmX6_set : Room := { frames := 3, cells := 0, slots := 0, locals := 66 }
set_option maxHeartbeats 4000000 in
set_option maxRecDepth 100000 in
theorem kX6_set (l : Launch) (g : GG) (n : Nat) (v : SV) (x y : Int32)  : Met l yX6_set wsX6_set rmX6_set (PW g n v [.ref (gA g 53), .int x, .int y]) (QF g n ((setM v x y).1) ((setM v x y).2)) 0 0 (wA g n) := by
  refine Met.begin RX6 rfl (by decide) rfl (Nat.le_of_ble_eq_true rfl) ?_
  intro p e s m args below meth c ls ha C hP hS hl
  have hn : 64 ≤ n := C.2.1.1.2.1
  have hi6 : ∀ w ∈ u_ws RX6 TX6 17, w ∈ wsX6_set := by decide +kernel
  have hl : lv_has ls 3 [(0, .ref (gA g 53)), (1, .int x), (2, .int y)] := hl
  refine lv_iload_n C.1.1 C.1.2.1 dX6_set_0 rfl (lv_at hl 1 rfl) ?_
  refine lv_iload_n C.1.1 C.1.2.1 dX6_set_1 rfl (lv_at hl 2 rfl) ?_
  refine a_B hS (run_S C hP hS hl.1 [.int x, .int y] (kX6_isSet l g n v x y) gX6_set_X6_isSet hdX6_isSet rfl ⟨rfl, rfl⟩ ⟨Nat.le_of_ble_eq_true rfl, Nat.le_of_ble_eq_true rfl⟩ rfl [] rfl (Nat.le_of_ble_eq_true rfl) dX6_set_2 ⟨Nat.zero_le _, Nat.zero_le _⟩) (fun b_1 H locs hP hS => ?_) (fun b_1 H locs hP hS => ?_)
  · skip
    obtain ⟨jx, hjx, rfl⟩ := setP_x b_1
    refine lv_if_eq (tgt := 19) C.1.1 C.1.2.1 dX6_set_5 (by decide) (fun c_2 => absurd c_2 (by decide)) (fun _ => ?_)
    refine lv_aload_n C.1.1 C.1.2.1 dX6_set_8 rfl (lv_at hl 0 rfl) ?_
    refine lv_iconst (v := 3) C.1.1 C.1.2.1 dX6_set_9 rfl ?_
    refine lv_iload_n C.1.1 C.1.2.1 dX6_set_10 rfl (lv_at hl 1 rfl) ?_
    refine lv_iadd C.1.1 C.1.2.1 dX6_set_11 ?_
    refine lv_topE (nI (3 + jx)) (nI_add 3 jx) ?_
    refine lv_iload_n C.1.1 C.1.2.1 dX6_set_12 rfl (lv_at hl 2 rfl) ?_
    refine a_F hS (run_V C hP hS hl.1 53 6 (Nat.lt_of_lt_of_le (by decide) hn) rfl (by decide) rfl [.int (nI (3 + jx)), .int y] (kX6_becomes l g n v (3 + jx) y (by omega)) gX6_set_X6_becomes rfl hdX6_becomes rfl ⟨rfl, rfl⟩ ⟨Nat.le_of_ble_eq_true rfl, Nat.le_of_ble_eq_true rfl⟩ rfl [] rfl (Nat.le_of_ble_eq_true rfl) dX6_set_13 ⟨Nat.zero_le _, Nat.zero_le _⟩) (fun H locs hP hS => ?_)
    obtain ⟨v_3, hv_3⟩ : ∃ zz, zz = up v 54 (3 + jx) y := ⟨_, rfl⟩
    rw [← hv_3] at hP
    refine lv_goto (tgt := 24) C.1.1 C.1.2.1 dX6_set_16 (by decide) ?_
    exact t_F C rfl hP hS (by (rw [setM]; (try simp only [tn_nI (show jx < 2 ^ 31 by omega)]); rw [cif_pos b_1]) <;> try simp only [fdM, upw_same, eq_self, if_true, if_false, ite_true, ite_false, ↓reduceIte, tn_nI (show jx < 2 ^ 31 by omega), hv_3]) (by (rw [setM]; (try simp only [tn_nI (show jx < 2 ^ 31 by omega)]); rw [cif_pos b_1]) <;> try simp only [fdM, upw_same, eq_self, if_true, if_false, ite_true, ite_false, ↓reduceIte, tn_nI (show jx < 2 ^ 31 by omega), hv_3]) dX6_set_24
  · skip
    refine lv_if_eq (tgt := 19) C.1.1 C.1.2.1 dX6_set_5 (by decide) (fun _ => ?_) (fun c_4 => absurd c_4 (by decide))
    refine lv_aload_n C.1.1 C.1.2.1 dX6_set_19 rfl (lv_at hl 0 rfl) ?_
    refine lv_iconst (v := 0) C.1.1 C.1.2.1 dX6_set_20 rfl ?_
    refine a_F hS (run_V C hP hS hl.1 53 6 (Nat.lt_of_lt_of_le (by decide) hn) rfl (by decide) rfl [.int 0] (kX6_finds l g n v 0 (by decide)) gX6_set_X6_finds rfl hdX6_finds rfl ⟨rfl, rfl⟩ ⟨Nat.le_of_ble_eq_true rfl, Nat.le_of_ble_eq_true rfl⟩ rfl [] rfl (Nat.le_of_ble_eq_true rfl) dX6_set_21 ⟨Nat.zero_le _, Nat.zero_le _⟩) (fun H locs hP hS => ?_)
    obtain ⟨v_5, hv_5⟩ : ∃ zz, zz = fnd v 0 := ⟨_, rfl⟩
    rw [← hv_5] at hP
    exact t_F C rfl hP hS (by (rw [setM]; rw [cif_neg b_1]) <;> try simp only [fdM, upw_same, eq_self, if_true, if_false, ite_true, ite_false, ↓reduceIte, hv_5]) (by (rw [setM]; rw [cif_neg b_1]) <;> try simp only [fdM, upw_same, eq_self, if_true, if_false, ite_true, ite_false, ↓reduceIte, hv_5]) dX6_set_24

abbrev rmX6_crier : Room := { frames := 1, cells := 0, slots := 0, locals := 25 }
set_option maxHeartbeats 4000000 in
set_option maxRecDepth 100000 in
theorem kX6_crier (l : Launch) (g : GG) (n : Nat) (v : SV) (x : Int32)  : Met l yX6_crier wsX6_crier rmX6_crier (PW g n v [.ref (gA g 53), .int x]) (QF g n ((crierM v x).1) ((crierM v x).2)) 0 0 (wA g n) := by
  refine Met.begin RX6 rfl (by decide) rfl (Nat.le_of_ble_eq_true rfl) ?_
  intro p e s m args below meth c ls ha C hP hS hl
  have hn : 64 ≤ n := C.2.1.1.2.1
  have hi6 : ∀ w ∈ u_ws RX6 TX6 17, w ∈ wsX6_crier := by decide +kernel
  have hl : lv_has ls 2 [(0, .ref (gA g 53)), (1, .int x)] := hl
  refine lv_iload_n C.1.1 C.1.2.1 dX6_crier_0 rfl (lv_at hl 1 rfl) ?_
  refine lv_i2l (v := x.toInt64) C.1.1 C.1.2.1 dX6_crier_1 rfl ?_
  refine lv_lconst (v := 0) C.1.1 C.1.2.1 dX6_crier_2 rfl ?_
  refine lv_ldc2 (v := 2) C.1.1 C.1.2.1 C.1.2.2.2.1 (C.1.2.2.2.2 _ (List.mem_of_getElem? (i := 1) rfl)) dX6_crier_3 ?_
  refine a_B hS (run_S C hP hS hl.1 [.long x.toInt64, .long 0, .long 2] (kX6_in l g n v x.toInt64 0 2) gX6_crier_X6_in hdX6_in rfl ⟨rfl, rfl⟩ ⟨Nat.le_of_ble_eq_true rfl, Nat.le_of_ble_eq_true rfl⟩ rfl [] rfl (Nat.le_of_ble_eq_true rfl) dX6_crier_6 ⟨Nat.zero_le _, Nat.zero_le _⟩) (fun b_1 H locs hP hS => ?_) (fun b_1 H locs hP hS => ?_)
  · skip
    have b_1 := (in_iff 3 (by decide) (by decide)).mp b_1
    obtain ⟨jx, hjx, rfl⟩ := b_1
    refine lv_if_eq (tgt := 23) C.1.1 C.1.2.1 dX6_crier_9 (by decide) (fun c_2 => absurd c_2 (by decide)) (fun _ => ?_)
    refine lv_aload_n C.1.1 C.1.2.1 dX6_crier_12 rfl (lv_at hl 0 rfl) ?_
    refine r_get C hP 53 6 (Nat.lt_of_lt_of_le (by decide) hn) rfl (by decide) rfl hi6 0 (by decide) (List.mem_of_getElem? (i := 2) rfl) rfl (val := .ref (gA g 54)) rfl dX6_crier_13 ?_
    refine lv_iconst (v := 3) C.1.1 C.1.2.1 dX6_crier_16 rfl ?_
    refine lv_iload_n C.1.1 C.1.2.1 dX6_crier_17 rfl (lv_at hl 1 rfl) ?_
    refine lv_iadd C.1.1 C.1.2.1 dX6_crier_18 ?_
    refine lv_topE (nI (3 + jx)) (nI_add 3 jx) ?_
    refine r_iald C hP 54 (Nat.lt_of_lt_of_le (by decide) hn) rfl (3 + jx) rfl (N := 83) rfl (by decide) (by omega) dX6_crier_19 ?_
    refine lv_goto (tgt := 28) C.1.1 C.1.2.1 dX6_crier_20 (by decide) ?_
    exact t_F C rfl hP hS (by (rw [crierM]; rw [cif_pos ⟨jx, hjx, rfl⟩]) <;> try simp only [fdM, upw_same, eq_self, if_true, if_false, ite_true, ite_false, ↓reduceIte, tn_nI (show jx < 2 ^ 31 by omega)]) (by (rw [crierM]; rw [cif_pos ⟨jx, hjx, rfl⟩]) <;> try simp only [fdM, upw_same, eq_self, if_true, if_false, ite_true, ite_false, ↓reduceIte, tn_nI (show jx < 2 ^ 31 by omega)]) dX6_crier_28
  · skip
    have b_1 := fun h => b_1 ((in_iff 3 (by decide) (by decide)).mpr h)
    refine lv_if_eq (tgt := 23) C.1.1 C.1.2.1 dX6_crier_9 (by decide) (fun _ => ?_) (fun c_3 => absurd c_3 (by decide))
    refine lv_aload_n C.1.1 C.1.2.1 dX6_crier_23 rfl (lv_at hl 0 rfl) ?_
    refine lv_iconst (v := 0) C.1.1 C.1.2.1 dX6_crier_24 rfl ?_
    refine a_F hS (run_V C hP hS hl.1 53 6 (Nat.lt_of_lt_of_le (by decide) hn) rfl (by decide) rfl [.int 0] (kX6_finds l g n v 0 (by decide)) gX6_crier_X6_finds rfl hdX6_finds rfl ⟨rfl, rfl⟩ ⟨Nat.le_of_ble_eq_true rfl, Nat.le_of_ble_eq_true rfl⟩ rfl [] rfl (Nat.le_of_ble_eq_true rfl) dX6_crier_25 ⟨Nat.zero_le _, Nat.zero_le _⟩) (fun H locs hP hS => ?_)
    obtain ⟨v_4, hv_4⟩ : ∃ zz, zz = fnd v 0 := ⟨_, rfl⟩
    rw [← hv_4] at hP
    exact t_F C rfl hP hS (by (rw [crierM]; rw [cif_neg b_1]) <;> try simp only [fdM, upw_same, eq_self, if_true, if_false, ite_true, ite_false, ↓reduceIte, hv_4]) (by (rw [crierM]; rw [cif_neg b_1]) <;> try simp only [fdM, upw_same, eq_self, if_true, if_false, ite_true, ite_false, ↓reduceIte, hv_4]) dX6_crier_28

abbrev rmX6_cry : Room := { frames := 2, cells := 0, slots := 0, locals := 45 }
set_option maxHeartbeats 4000000 in
set_option maxRecDepth 100000 in
theorem kX6_cry (l : Launch) (g : GG) (n : Nat) (v : SV) (x y : Int32)  : Met l yX6_cry wsX6_cry rmX6_cry (PW g n v [.ref (gA g 53), .int x, .int y]) (QF g n ((cryM v x y).1) ((cryM v x y).2)) 0 0 (wA g n) := by
  refine Met.begin RX6 rfl (by decide) rfl (Nat.le_of_ble_eq_true rfl) ?_
  intro p e s m args below meth c ls ha C hP hS hl
  have hn : 64 ≤ n := C.2.1.1.2.1
  have hi6 : ∀ w ∈ u_ws RX6 TX6 17, w ∈ wsX6_cry := by decide +kernel
  have hl : lv_has ls 3 [(0, .ref (gA g 53)), (1, .int x), (2, .int y)] := hl
  refine lv_iload_n C.1.1 C.1.2.1 dX6_cry_0 rfl (lv_at hl 1 rfl) ?_
  refine lv_i2l (v := x.toInt64) C.1.1 C.1.2.1 dX6_cry_1 rfl ?_
  refine lv_lconst (v := 0) C.1.1 C.1.2.1 dX6_cry_2 rfl ?_
  refine lv_ldc2 (v := 5) C.1.1 C.1.2.1 C.1.2.2.2.1 (C.1.2.2.2.2 _ (List.mem_of_getElem? (i := 1) rfl)) dX6_cry_3 ?_
  refine a_B hS (run_S C hP hS hl.1 [.long x.toInt64, .long 0, .long 5] (kX6_in l g n v x.toInt64 0 5) gX6_cry_X6_in hdX6_in rfl ⟨rfl, rfl⟩ ⟨Nat.le_of_ble_eq_true rfl, Nat.le_of_ble_eq_true rfl⟩ rfl [] rfl (Nat.le_of_ble_eq_true rfl) dX6_cry_6 ⟨Nat.zero_le _, Nat.zero_le _⟩) (fun b_1 H locs hP hS => ?_) (fun b_1 H locs hP hS => ?_)
  · skip
    have b_1 := (in_iff 6 (by decide) (by decide)).mp b_1
    obtain ⟨jx, hjx, rfl⟩ := b_1
    refine lv_if_eq (tgt := 31) C.1.1 C.1.2.1 dX6_cry_9 (by decide) (fun c_2 => absurd c_2 (by decide)) (fun _ => ?_)
    refine lv_iload_n C.1.1 C.1.2.1 dX6_cry_12 rfl (lv_at hl 2 rfl) ?_
    refine a_B hS (run_S C hP hS hl.1 [.int y] (kX6_isGood l g n v y) gX6_cry_X6_isGood hdX6_isGood rfl ⟨rfl, rfl⟩ ⟨Nat.le_of_ble_eq_true rfl, Nat.le_of_ble_eq_true rfl⟩ rfl [] rfl (Nat.le_of_ble_eq_true rfl) dX6_cry_13 ⟨Nat.zero_le _, Nat.zero_le _⟩) (fun b_3 H locs hP hS => ?_) (fun b_3 H locs hP hS => ?_)
    · skip
      obtain ⟨jy, hjy, rfl⟩ := b_3
      refine lv_if_eq (tgt := 31) C.1.1 C.1.2.1 dX6_cry_16 (by decide) (fun c_4 => absurd c_4 (by decide)) (fun _ => ?_)
      refine lv_aload_n C.1.1 C.1.2.1 dX6_cry_19 rfl (lv_at hl 0 rfl) ?_
      refine lv_bipush (v := 7) C.1.1 C.1.2.1 dX6_cry_20 rfl ?_
      refine lv_iload_n C.1.1 C.1.2.1 dX6_cry_22 rfl (lv_at hl 1 rfl) ?_
      refine lv_iadd C.1.1 C.1.2.1 dX6_cry_23 ?_
      refine lv_topE (nI (7 + jx)) (nI_add 7 jx) ?_
      refine lv_iload_n C.1.1 C.1.2.1 dX6_cry_24 rfl (lv_at hl 2 rfl) ?_
      refine a_F hS (run_V C hP hS hl.1 53 6 (Nat.lt_of_lt_of_le (by decide) hn) rfl (by decide) rfl [.int (nI (7 + jx)), .int (nI jy)] (kX6_becomes l g n v (7 + jx) (nI jy) (by omega)) gX6_cry_X6_becomes rfl hdX6_becomes rfl ⟨rfl, rfl⟩ ⟨Nat.le_of_ble_eq_true rfl, Nat.le_of_ble_eq_true rfl⟩ rfl [] rfl (Nat.le_of_ble_eq_true rfl) dX6_cry_25 ⟨Nat.zero_le _, Nat.zero_le _⟩) (fun H locs hP hS => ?_)
      obtain ⟨v_5, hv_5⟩ : ∃ zz, zz = up v 54 (7 + jx) (nI jy) := ⟨_, rfl⟩
      rw [← hv_5] at hP
      refine lv_goto (tgt := 36) C.1.1 C.1.2.1 dX6_cry_28 (by decide) ?_
      exact t_F C rfl hP hS (by (rw [cryM]; rw [cif_pos ⟨jx, hjx, rfl⟩]; rw [cif_pos ⟨jy, hjy, rfl⟩]) <;> try simp only [fdM, upw_same, eq_self, if_true, if_false, ite_true, ite_false, ↓reduceIte, tn_nI (show jx < 2 ^ 31 by omega), tn_nI (show jy < 2 ^ 31 by omega), hv_5]) (by (rw [cryM]; rw [cif_pos ⟨jx, hjx, rfl⟩]; rw [cif_pos ⟨jy, hjy, rfl⟩]) <;> try simp only [fdM, upw_same, eq_self, if_true, if_false, ite_true, ite_false, ↓reduceIte, tn_nI (show jx < 2 ^ 31 by omega), tn_nI (show jy < 2 ^ 31 by omega), hv_5]) dX6_cry_36
    · skip
      refine lv_if_eq (tgt := 31) C.1.1 C.1.2.1 dX6_cry_16 (by decide) (fun _ => ?_) (fun c_6 => absurd c_6 (by decide))
      refine lv_aload_n C.1.1 C.1.2.1 dX6_cry_31 rfl (lv_at hl 0 rfl) ?_
      refine lv_iconst (v := 0) C.1.1 C.1.2.1 dX6_cry_32 rfl ?_
      refine a_F hS (run_V C hP hS hl.1 53 6 (Nat.lt_of_lt_of_le (by decide) hn) rfl (by decide) rfl [.int 0] (kX6_finds l g n v 0 (by decide)) gX6_cry_X6_finds rfl hdX6_finds rfl ⟨rfl, rfl⟩ ⟨Nat.le_of_ble_eq_true rfl, Nat.le_of_ble_eq_true rfl⟩ rfl [] rfl (Nat.le_of_ble_eq_true rfl) dX6_cry_33 ⟨Nat.zero_le _, Nat.zero_le _⟩) (fun H locs hP hS => ?_)
      obtain ⟨v_7, hv_7⟩ : ∃ zz, zz = fnd v 0 := ⟨_, rfl⟩
      rw [← hv_7] at hP
      exact t_F C rfl hP hS (by (rw [cryM]; rw [cif_pos ⟨jx, hjx, rfl⟩]; (try simp only [tn_nI (show jx < 2 ^ 31 by omega)]); rw [cif_neg b_3]) <;> try simp only [fdM, upw_same, eq_self, if_true, if_false, ite_true, ite_false, ↓reduceIte, tn_nI (show jx < 2 ^ 31 by omega), hv_7]) (by (rw [cryM]; rw [cif_pos ⟨jx, hjx, rfl⟩]; (try simp only [tn_nI (show jx < 2 ^ 31 by omega)]); rw [cif_neg b_3]) <;> try simp only [fdM, upw_same, eq_self, if_true, if_false, ite_true, ite_false, ↓reduceIte, tn_nI (show jx < 2 ^ 31 by omega), hv_7]) dX6_cry_36
  · skip
    have b_1 := fun h => b_1 ((in_iff 6 (by decide) (by decide)).mpr h)
    refine lv_if_eq (tgt := 31) C.1.1 C.1.2.1 dX6_cry_9 (by decide) (fun _ => ?_) (fun c_8 => absurd c_8 (by decide))
    refine lv_aload_n C.1.1 C.1.2.1 dX6_cry_31 rfl (lv_at hl 0 rfl) ?_
    refine lv_iconst (v := 0) C.1.1 C.1.2.1 dX6_cry_32 rfl ?_
    refine a_F hS (run_V C hP hS hl.1 53 6 (Nat.lt_of_lt_of_le (by decide) hn) rfl (by decide) rfl [.int 0] (kX6_finds l g n v 0 (by decide)) gX6_cry_X6_finds rfl hdX6_finds rfl ⟨rfl, rfl⟩ ⟨Nat.le_of_ble_eq_true rfl, Nat.le_of_ble_eq_true rfl⟩ rfl [] rfl (Nat.le_of_ble_eq_true rfl) dX6_cry_33 ⟨Nat.zero_le _, Nat.zero_le _⟩) (fun H locs hP hS => ?_)
    obtain ⟨v_9, hv_9⟩ : ∃ zz, zz = fnd v 0 := ⟨_, rfl⟩
    rw [← hv_9] at hP
    exact t_F C rfl hP hS (by (rw [cryM]; rw [cif_neg b_1]) <;> try simp only [fdM, upw_same, eq_self, if_true, if_false, ite_true, ite_false, ↓reduceIte, hv_9]) (by (rw [cryM]; rw [cif_neg b_1]) <;> try simp only [fdM, upw_same, eq_self, if_true, if_false, ite_true, ite_false, ↓reduceIte, hv_9]) dX6_cry_36

abbrev rmX6_listed : Room := { frames := 1, cells := 0, slots := 0, locals := 25 }
set_option maxHeartbeats 4000000 in
set_option maxRecDepth 100000 in
theorem kX6_listed (l : Launch) (g : GG) (n : Nat) (v : SV) (x : Int32)  : Met l yX6_listed wsX6_listed rmX6_listed (PW g n v [.ref (gA g 53), .int x]) (QF g n ((listedM v x).1) ((listedM v x).2)) 0 0 (wA g n) := by
  refine Met.begin RX6 rfl (by decide) rfl (Nat.le_of_ble_eq_true rfl) ?_
  intro p e s m args below meth c ls ha C hP hS hl
  have hn : 64 ≤ n := C.2.1.1.2.1
  have hi6 : ∀ w ∈ u_ws RX6 TX6 17, w ∈ wsX6_listed := by decide +kernel
  have hl : lv_has ls 2 [(0, .ref (gA g 53)), (1, .int x)] := hl
  refine lv_iload_n C.1.1 C.1.2.1 dX6_listed_0 rfl (lv_at hl 1 rfl) ?_
  refine lv_i2l (v := x.toInt64) C.1.1 C.1.2.1 dX6_listed_1 rfl ?_
  refine lv_lconst (v := 0) C.1.1 C.1.2.1 dX6_listed_2 rfl ?_
  refine lv_ldc2 (v := 5) C.1.1 C.1.2.1 C.1.2.2.2.1 (C.1.2.2.2.2 _ (List.mem_of_getElem? (i := 1) rfl)) dX6_listed_3 ?_
  refine a_B hS (run_S C hP hS hl.1 [.long x.toInt64, .long 0, .long 5] (kX6_in l g n v x.toInt64 0 5) gX6_listed_X6_in hdX6_in rfl ⟨rfl, rfl⟩ ⟨Nat.le_of_ble_eq_true rfl, Nat.le_of_ble_eq_true rfl⟩ rfl [] rfl (Nat.le_of_ble_eq_true rfl) dX6_listed_6 ⟨Nat.zero_le _, Nat.zero_le _⟩) (fun b_1 H locs hP hS => ?_) (fun b_1 H locs hP hS => ?_)
  · skip
    have b_1 := (in_iff 6 (by decide) (by decide)).mp b_1
    obtain ⟨jx, hjx, rfl⟩ := b_1
    refine lv_if_eq (tgt := 24) C.1.1 C.1.2.1 dX6_listed_9 (by decide) (fun c_2 => absurd c_2 (by decide)) (fun _ => ?_)
    refine lv_aload_n C.1.1 C.1.2.1 dX6_listed_12 rfl (lv_at hl 0 rfl) ?_
    refine r_get C hP 53 6 (Nat.lt_of_lt_of_le (by decide) hn) rfl (by decide) rfl hi6 0 (by decide) (List.mem_of_getElem? (i := 2) rfl) rfl (val := .ref (gA g 54)) rfl dX6_listed_13 ?_
    refine lv_bipush (v := 7) C.1.1 C.1.2.1 dX6_listed_16 rfl ?_
    refine lv_iload_n C.1.1 C.1.2.1 dX6_listed_18 rfl (lv_at hl 1 rfl) ?_
    refine lv_iadd C.1.1 C.1.2.1 dX6_listed_19 ?_
    refine lv_topE (nI (7 + jx)) (nI_add 7 jx) ?_
    refine r_iald C hP 54 (Nat.lt_of_lt_of_le (by decide) hn) rfl (7 + jx) rfl (N := 83) rfl (by decide) (by omega) dX6_listed_20 ?_
    refine lv_goto (tgt := 29) C.1.1 C.1.2.1 dX6_listed_21 (by decide) ?_
    exact t_F C rfl hP hS (by (rw [listedM]; rw [cif_pos ⟨jx, hjx, rfl⟩]) <;> try simp only [fdM, upw_same, eq_self, if_true, if_false, ite_true, ite_false, ↓reduceIte, tn_nI (show jx < 2 ^ 31 by omega)]) (by (rw [listedM]; rw [cif_pos ⟨jx, hjx, rfl⟩]) <;> try simp only [fdM, upw_same, eq_self, if_true, if_false, ite_true, ite_false, ↓reduceIte, tn_nI (show jx < 2 ^ 31 by omega)]) dX6_listed_29
  · skip
    have b_1 := fun h => b_1 ((in_iff 6 (by decide) (by decide)).mpr h)
    refine lv_if_eq (tgt := 24) C.1.1 C.1.2.1 dX6_listed_9 (by decide) (fun _ => ?_) (fun c_3 => absurd c_3 (by decide))
    refine lv_aload_n C.1.1 C.1.2.1 dX6_listed_24 rfl (lv_at hl 0 rfl) ?_
    refine lv_iconst (v := 0) C.1.1 C.1.2.1 dX6_listed_25 rfl ?_
    refine a_F hS (run_V C hP hS hl.1 53 6 (Nat.lt_of_lt_of_le (by decide) hn) rfl (by decide) rfl [.int 0] (kX6_finds l g n v 0 (by decide)) gX6_listed_X6_finds rfl hdX6_finds rfl ⟨rfl, rfl⟩ ⟨Nat.le_of_ble_eq_true rfl, Nat.le_of_ble_eq_true rfl⟩ rfl [] rfl (Nat.le_of_ble_eq_true rfl) dX6_listed_26 ⟨Nat.zero_le _, Nat.zero_le _⟩) (fun H locs hP hS => ?_)
    obtain ⟨v_4, hv_4⟩ : ∃ zz, zz = fnd v 0 := ⟨_, rfl⟩
    rw [← hv_4] at hP
    exact t_F C rfl hP hS (by (rw [listedM]; rw [cif_neg b_1]) <;> try simp only [fdM, upw_same, eq_self, if_true, if_false, ite_true, ite_false, ↓reduceIte, hv_4]) (by (rw [listedM]; rw [cif_neg b_1]) <;> try simp only [fdM, upw_same, eq_self, if_true, if_false, ite_true, ite_false, ↓reduceIte, hv_4]) dX6_listed_29

abbrev rmX6_register : Room := { frames := 2, cells := 0, slots := 0, locals := 45 }
set_option maxHeartbeats 4000000 in
set_option maxRecDepth 100000 in
theorem kX6_register (l : Launch) (g : GG) (n : Nat) (v : SV) (x : Int32)  : Met l yX6_register wsX6_register rmX6_register (PW g n v [.ref (gA g 53), .int x]) (QF g n ((registerM v x).1) ((registerM v x).2)) 0 0 (wA g n) := by
  refine Met.begin RX6 rfl (by decide) rfl (Nat.le_of_ble_eq_true rfl) ?_
  intro p e s m args below meth c ls ha C hP hS hl
  have hn : 64 ≤ n := C.2.1.1.2.1
  have hi6 : ∀ w ∈ u_ws RX6 TX6 17, w ∈ wsX6_register := by decide +kernel
  have hl : lv_has ls 2 [(0, .ref (gA g 53)), (1, .int x)] := hl
  refine lv_iload_n C.1.1 C.1.2.1 dX6_register_0 rfl (lv_at hl 1 rfl) ?_
  refine a_B hS (run_S C hP hS hl.1 [.int x] (kX6_isGood l g n v x) gX6_register_X6_isGood hdX6_isGood rfl ⟨rfl, rfl⟩ ⟨Nat.le_of_ble_eq_true rfl, Nat.le_of_ble_eq_true rfl⟩ rfl [] rfl (Nat.le_of_ble_eq_true rfl) dX6_register_1 ⟨Nat.zero_le _, Nat.zero_le _⟩) (fun b_1 H locs hP hS => ?_) (fun b_1 H locs hP hS => ?_)
  · skip
    obtain ⟨jx, hjx, rfl⟩ := b_1
    refine lv_if_eq (tgt := 19) C.1.1 C.1.2.1 dX6_register_4 (by decide) (fun c_2 => absurd c_2 (by decide)) (fun _ => ?_)
    refine lv_aload_n C.1.1 C.1.2.1 dX6_register_7 rfl (lv_at hl 0 rfl) ?_
    refine r_get C hP 53 6 (Nat.lt_of_lt_of_le (by decide) hn) rfl (by decide) rfl hi6 0 (by decide) (List.mem_of_getElem? (i := 1) rfl) rfl (val := .ref (gA g 54)) rfl dX6_register_8 ?_
    refine lv_bipush (v := 13) C.1.1 C.1.2.1 dX6_register_11 rfl ?_
    refine lv_iload_n C.1.1 C.1.2.1 dX6_register_13 rfl (lv_at hl 1 rfl) ?_
    refine lv_iadd C.1.1 C.1.2.1 dX6_register_14 ?_
    refine lv_topE (nI (13 + jx)) (nI_add 13 jx) ?_
    refine r_iald C hP 54 (Nat.lt_of_lt_of_le (by decide) hn) rfl (13 + jx) rfl (N := 83) rfl (by decide) (by omega) dX6_register_15 ?_
    refine lv_goto (tgt := 24) C.1.1 C.1.2.1 dX6_register_16 (by decide) ?_
    exact t_F C rfl hP hS (by (rw [registerM]; rw [cif_pos ⟨jx, hjx, rfl⟩]) <;> try simp only [fdM, upw_same, eq_self, if_true, if_false, ite_true, ite_false, ↓reduceIte, tn_nI (show jx < 2 ^ 31 by omega)]) (by (rw [registerM]; rw [cif_pos ⟨jx, hjx, rfl⟩]) <;> try simp only [fdM, upw_same, eq_self, if_true, if_false, ite_true, ite_false, ↓reduceIte, tn_nI (show jx < 2 ^ 31 by omega)]) dX6_register_24
  · skip
    refine lv_if_eq (tgt := 19) C.1.1 C.1.2.1 dX6_register_4 (by decide) (fun _ => ?_) (fun c_3 => absurd c_3 (by decide))
    refine lv_aload_n C.1.1 C.1.2.1 dX6_register_19 rfl (lv_at hl 0 rfl) ?_
    refine lv_iconst (v := 0) C.1.1 C.1.2.1 dX6_register_20 rfl ?_
    refine a_F hS (run_V C hP hS hl.1 53 6 (Nat.lt_of_lt_of_le (by decide) hn) rfl (by decide) rfl [.int 0] (kX6_finds l g n v 0 (by decide)) gX6_register_X6_finds rfl hdX6_finds rfl ⟨rfl, rfl⟩ ⟨Nat.le_of_ble_eq_true rfl, Nat.le_of_ble_eq_true rfl⟩ rfl [] rfl (Nat.le_of_ble_eq_true rfl) dX6_register_21 ⟨Nat.zero_le _, Nat.zero_le _⟩) (fun H locs hP hS => ?_)
    obtain ⟨v_4, hv_4⟩ : ∃ zz, zz = fnd v 0 := ⟨_, rfl⟩
    rw [← hv_4] at hP
    exact t_F C rfl hP hS (by (rw [registerM]; rw [cif_neg b_1]) <;> try simp only [fdM, upw_same, eq_self, if_true, if_false, ite_true, ite_false, ↓reduceIte, hv_4]) (by (rw [registerM]; rw [cif_neg b_1]) <;> try simp only [fdM, upw_same, eq_self, if_true, if_false, ite_true, ite_false, ↓reduceIte, hv_4]) dX6_register_24

abbrev rmX6_mostOf : Room := { frames := 0, cells := 0, slots := 0, locals := 0 }
set_option maxHeartbeats 4000000 in
set_option maxRecDepth 100000 in
theorem kX6_mostOf (l : Launch) (g : GG) (n : Nat) (v : SV) (x : Int32) : Met l yX6_mostOf wsX6_mostOf rmX6_mostOf (PW g n v [.int x]) (QF g n (mostF x) v) 0 0 (wA g n) := by
  refine Met.begin RX6 rfl (by decide) rfl (Nat.le_of_ble_eq_true rfl) ?_
  intro p e s m args below meth c ls ha C hP hS hl
  have hn : 64 ≤ n := C.2.1.1.2.1
  have hl : lv_has ls 1 [(0, .int x)] := hl
  refine lv_iload_n C.1.1 C.1.2.1 dX6_mostOf_0 rfl (lv_at hl 0 rfl) ?_
  refine lv_if_ne (tgt := 9) C.1.1 C.1.2.1 dX6_mostOf_1 (by decide) (fun c_1 => ?_) (fun c_1 => ?_)
  · skip
    refine lv_iload_n C.1.1 C.1.2.1 dX6_mostOf_9 rfl (lv_at hl 0 rfl) ?_
    refine lv_iconst (v := 1) C.1.1 C.1.2.1 dX6_mostOf_10 rfl ?_
    refine lv_icmp_ne (tgt := 19) C.1.1 C.1.2.1 dX6_mostOf_11 (by decide) (fun c_2 => ?_) (fun c_2 => ?_)
    · skip
      refine lv_iload_n C.1.1 C.1.2.1 dX6_mostOf_19 rfl (lv_at hl 0 rfl) ?_
      refine lv_iconst (v := 2) C.1.1 C.1.2.1 dX6_mostOf_20 rfl ?_
      refine lv_icmp_ne (tgt := 30) C.1.1 C.1.2.1 dX6_mostOf_21 (by decide) (fun c_3 => ?_) (fun c_3 => ?_)
      · skip
        refine lv_iload_n C.1.1 C.1.2.1 dX6_mostOf_30 rfl (lv_at hl 0 rfl) ?_
        refine lv_iconst (v := 3) C.1.1 C.1.2.1 dX6_mostOf_31 rfl ?_
        refine lv_icmp_ne (tgt := 40) C.1.1 C.1.2.1 dX6_mostOf_32 (by decide) (fun c_4 => ?_) (fun c_4 => ?_)
        · skip
          refine lv_iload_n C.1.1 C.1.2.1 dX6_mostOf_40 rfl (lv_at hl 0 rfl) ?_
          refine lv_iconst (v := 4) C.1.1 C.1.2.1 dX6_mostOf_41 rfl ?_
          refine lv_icmp_ne (tgt := 51) C.1.1 C.1.2.1 dX6_mostOf_42 (by decide) (fun c_5 => ?_) (fun c_5 => ?_)
          · skip
            refine lv_iconst (v := 1) C.1.1 C.1.2.1 dX6_mostOf_51 rfl ?_
            exact t_F C rfl hP hS (by simp [mostF, c_1, c_2, c_3, c_4, c_5]) rfl dX6_mostOf_52
          · skip
            refine lv_sipush (v := 9999) C.1.1 C.1.2.1 dX6_mostOf_45 rfl ?_
            refine lv_goto (tgt := 52) C.1.1 C.1.2.1 dX6_mostOf_48 (by decide) ?_
            exact t_F C rfl hP hS (by simp [mostF, c_1, c_2, c_3, c_4, c_5]) rfl dX6_mostOf_52
        · skip
          refine lv_bipush (v := 99) C.1.1 C.1.2.1 dX6_mostOf_35 rfl ?_
          refine lv_goto (tgt := 52) C.1.1 C.1.2.1 dX6_mostOf_37 (by decide) ?_
          exact t_F C rfl hP hS (by simp [mostF, c_1, c_2, c_3, c_4]) rfl dX6_mostOf_52
      · skip
        refine lv_sipush (v := 4095) C.1.1 C.1.2.1 dX6_mostOf_24 rfl ?_
        refine lv_goto (tgt := 52) C.1.1 C.1.2.1 dX6_mostOf_27 (by decide) ?_
        exact t_F C rfl hP hS (by simp [mostF, c_1, c_2, c_3]) rfl dX6_mostOf_52
    · skip
      refine lv_bipush (v := 15) C.1.1 C.1.2.1 dX6_mostOf_14 rfl ?_
      refine lv_goto (tgt := 52) C.1.1 C.1.2.1 dX6_mostOf_16 (by decide) ?_
      exact t_F C rfl hP hS (by simp [mostF, c_1, c_2]) rfl dX6_mostOf_52
  · skip
    refine lv_bipush (v := 6) C.1.1 C.1.2.1 dX6_mostOf_4 rfl ?_
    refine lv_goto (tgt := 52) C.1.1 C.1.2.1 dX6_mostOf_6 (by decide) ?_
    exact t_F C rfl hP hS (by simp [mostF, c_1]) rfl dX6_mostOf_52

abbrev rmX6_comes : Room := { frames := 1, cells := 0, slots := 0, locals := 23 }
set_option maxHeartbeats 4000000 in
set_option maxRecDepth 100000 in
theorem kX6_comes (l : Launch) (g : GG) (n : Nat) (v : SV) (x y : Int32) (N : Nat) (hM : okM (v.1 54) N) (h7 : N < 8) : Met l yX6_comes wsX6_comes rmX6_comes (PW g n v [.ref (gA g 53), .int x, .int y]) (QF g n (v.1 54 0) (upw v 54 (comesM (v.1 54) N x y))) 0 0 (wA g n) := by
  refine Met.begin RX6 rfl (by decide) rfl (Nat.le_of_ble_eq_true rfl) ?_
  intro p e s m args below meth c ls ha C hP hS hl
  have hn : 64 ≤ n := C.2.1.1.2.1
  have hi6 : ∀ w ∈ u_ws RX6 TX6 17, w ∈ wsX6_comes := by decide +kernel
  have hl : lv_has ls 5 [(0, .ref (gA g 53)), (1, .int x), (2, .int y)] := hl
  refine lv_aload_n C.1.1 C.1.2.1 dX6_comes_0 rfl (lv_at hl 0 rfl) ?_
  refine r_get C hP 53 6 (Nat.lt_of_lt_of_le (by decide) hn) rfl (by decide) rfl hi6 0 (by decide) (List.mem_of_getElem? (i := 1) rfl) rfl (val := .ref (gA g 54)) rfl dX6_comes_1 ?_
  refine lv_iconst (v := 0) C.1.1 C.1.2.1 dX6_comes_4 rfl ?_
  refine r_iald C hP 54 (Nat.lt_of_lt_of_le (by decide) hn) rfl 0 rfl (N := 83) rfl (by decide) (by omega) dX6_comes_5 ?_
  refine lv_topE (nI N) hM.2.1 ?_
  refine lv_istore_n (lv' := [(3, .int (nI N)), (0, .ref (gA g 53)), (1, .int x), (2, .int y)]) C.1.1 C.1.2.1 dX6_comes_6 rfl hl (by decide) rfl (fun ls hl => ?_)
  refine lv_iconst (v := 0) C.1.1 C.1.2.1 dX6_comes_7 rfl ?_
  refine lv_istore (lv' := [(4, .int 0), (3, .int (nI N)), (0, .ref (gA g 53)), (1, .int x), (2, .int y)]) C.1.1 C.1.2.1 dX6_comes_8 hl (by decide) rfl (fun ls hl => ?_)
  have lp_10 : ∀ (k_10 i : Nat), i ≤ 6 → 6 + 1 ≤ i + k_10 → ∀ (H : Heap) (locs : List Loc) (ls : Array Slot), va_P g.1 vwCl (wl g n (upw v 54 (zrM (v.1 54) N i))) H → va_S (wA g n) s.heap H locs → lv_has ls 5 [(0, .ref (gA g 53)), (1, .int x), (2, .int y), (3, .int (nI N)), (4, .int (nI i))] → W p l e rmX6_comes s m args below meth c H locs 0 0 (MQ below (QF g n (v.1 54 0) (upw v 54 (comesM (v.1 54) N x y))) args s 0 0 (wA g n)) (F0 m 10 ls []) := by
    clear hP hS hl
    intro k_10
    induction k_10 with
    | zero => exact fun i h1 h2 => absurd h2 (by omega)
    | succ k_10 ih_10 =>
      intro i hi_10 hk_10 H locs ls hP hS hl
      refine lv_iload C.1.1 C.1.2.1 dX6_comes_10 (lv_at hl 4 rfl) ?_
      refine lv_iconst (v := 5) C.1.1 C.1.2.1 dX6_comes_12 rfl ?_
      refine lv_icmp_gt (tgt := 30) C.1.1 C.1.2.1 dX6_comes_13 (by decide) (fun c_1 => ?_) (fun c_1 => ?_)
      · rw [show (5 < nI i) = (5 < i) from propext (nI_ltI (a := 5) (b := i) (by omega) (by omega))] at c_1
        have hi66 : i = 6 := by omega
        subst hi66
        refine lv_aload_n C.1.1 C.1.2.1 dX6_comes_30 rfl (lv_at hl 0 rfl) ?_
        refine lv_iload_n C.1.1 C.1.2.1 dX6_comes_31 rfl (lv_at hl 3 rfl) ?_
        refine lv_iconst (v := 0) C.1.1 C.1.2.1 dX6_comes_32 rfl ?_
        refine lv_iload_n C.1.1 C.1.2.1 dX6_comes_33 rfl (lv_at hl 1 rfl) ?_
        refine a_G hS (run_V C hP hS hl.1 53 6 (Nat.lt_of_lt_of_le (by decide) hn) rfl (by decide) rfl [.int (nI N), .int 0, .int x] (kX6_sets l g n (upw v 54 (zrM (v.1 54) N 6)) N 0 x (by omega) (by omega)) gX6_comes_X6_sets rfl hdX6_sets rfl ⟨rfl, rfl⟩ ⟨Nat.le_of_ble_eq_true rfl, Nat.le_of_ble_eq_true rfl⟩ rfl [] rfl (Nat.le_of_ble_eq_true rfl) dX6_comes_34 ⟨Nat.zero_le _, Nat.zero_le _⟩) (fun H locs hP hS => ?_)
        obtain ⟨d_2, hd_2⟩ : ∃ zz, zz = upd (zrM (v.1 54) N 6) (25 + 8 * 0 + N) x := ⟨_, rfl⟩
        rw [show up (upw v 54 (zrM (v.1 54) N 6)) 54 (25 + 8 * 0 + N) x = upw v 54 d_2 from by rw [hd_2]; exact upw_up _ _ _ _ _] at hP
        refine lv_aload_n C.1.1 C.1.2.1 dX6_comes_37 rfl (lv_at hl 0 rfl) ?_
        refine lv_iload_n C.1.1 C.1.2.1 dX6_comes_38 rfl (lv_at hl 3 rfl) ?_
        refine lv_iconst (v := 1) C.1.1 C.1.2.1 dX6_comes_39 rfl ?_
        refine lv_iload_n C.1.1 C.1.2.1 dX6_comes_40 rfl (lv_at hl 2 rfl) ?_
        refine a_G hS (run_V C hP hS hl.1 53 6 (Nat.lt_of_lt_of_le (by decide) hn) rfl (by decide) rfl [.int (nI N), .int 1, .int y] (kX6_sets l g n (upw v 54 d_2) N 1 y (by omega) (by omega)) gX6_comes_X6_sets rfl hdX6_sets rfl ⟨rfl, rfl⟩ ⟨Nat.le_of_ble_eq_true rfl, Nat.le_of_ble_eq_true rfl⟩ rfl [] rfl (Nat.le_of_ble_eq_true rfl) dX6_comes_41 ⟨Nat.zero_le _, Nat.zero_le _⟩) (fun H locs hP hS => ?_)
        obtain ⟨d_3, hd_3⟩ : ∃ zz, zz = upd d_2 (25 + 8 * 1 + N) y := ⟨_, rfl⟩
        rw [show up (upw v 54 d_2) 54 (25 + 8 * 1 + N) y = upw v 54 d_3 from by rw [hd_3]; exact upw_up _ _ _ _ _] at hP
        refine lv_aload_n C.1.1 C.1.2.1 dX6_comes_44 rfl (lv_at hl 0 rfl) ?_
        refine lv_iload_n C.1.1 C.1.2.1 dX6_comes_45 rfl (lv_at hl 3 rfl) ?_
        refine lv_iconst (v := 3) C.1.1 C.1.2.1 dX6_comes_46 rfl ?_
        refine lv_bipush (v := 50) C.1.1 C.1.2.1 dX6_comes_47 rfl ?_
        refine a_G hS (run_V C hP hS hl.1 53 6 (Nat.lt_of_lt_of_le (by decide) hn) rfl (by decide) rfl [.int (nI N), .int 3, .int 50] (kX6_sets l g n (upw v 54 d_3) N 3 50 (by omega) (by omega)) gX6_comes_X6_sets rfl hdX6_sets rfl ⟨rfl, rfl⟩ ⟨Nat.le_of_ble_eq_true rfl, Nat.le_of_ble_eq_true rfl⟩ rfl [] rfl (Nat.le_of_ble_eq_true rfl) dX6_comes_49 ⟨Nat.zero_le _, Nat.zero_le _⟩) (fun H locs hP hS => ?_)
        obtain ⟨d_4, hd_4⟩ : ∃ zz, zz = upd d_3 (25 + 8 * 3 + N) 50 := ⟨_, rfl⟩
        rw [show up (upw v 54 d_3) 54 (25 + 8 * 3 + N) 50 = upw v 54 d_4 from by rw [hd_4]; exact upw_up _ _ _ _ _] at hP
        refine lv_aload_n C.1.1 C.1.2.1 dX6_comes_52 rfl (lv_at hl 0 rfl) ?_
        refine r_get C hP 53 6 (Nat.lt_of_lt_of_le (by decide) hn) rfl (by decide) rfl hi6 0 (by decide) (List.mem_of_getElem? (i := 1) rfl) rfl (val := .ref (gA g 54)) rfl dX6_comes_53 ?_
        refine lv_iconst (v := 0) C.1.1 C.1.2.1 dX6_comes_56 rfl ?_
        refine lv_dup2_11 C.1.1 C.1.2.1 dX6_comes_57 rfl rfl ?_
        refine r_iald C hP 54 (Nat.lt_of_lt_of_le (by decide) hn) rfl 0 rfl (N := 83) rfl (by decide) (by omega) dX6_comes_58 ?_
        refine lv_topE (d_4 0) rfl ?_
        refine lv_topE (nI N) (by rw [hd_4, hd_3, hd_2]; simp only [upd]; rw [if_neg (by omega), if_neg (by omega), if_neg (by omega), zrM_0]; exact hM.2.1) ?_
        refine lv_iconst (v := 1) C.1.1 C.1.2.1 dX6_comes_59 rfl ?_
        refine lv_iadd C.1.1 C.1.2.1 dX6_comes_60 ?_
        refine lv_topE (nI (N + 1)) (nI_add N 1) ?_
        refine r_iast C hP hS 54 (Nat.lt_of_lt_of_le (by decide) hn) rfl 0 rfl (N := 83) rfl (by decide) (by omega) dX6_comes_61 (fun H locs hP hS => ?_)
        obtain ⟨d_5, hd_5⟩ : ∃ zz, zz = upd d_4 0 (nI (N + 1)) := ⟨_, rfl⟩
        rw [show up (upw v 54 d_4) 54 0 (nI (N + 1)) = upw v 54 d_5 from by rw [hd_5]; exact upw_up _ _ _ _ _] at hP
        refine lv_iload_n C.1.1 C.1.2.1 dX6_comes_62 rfl (lv_at hl 3 rfl) ?_
        exact t_F C rfl hP hS hM.2.1.symm (by rw [comesM, hd_5, hd_4, hd_3, hd_2]) dX6_comes_63
      · rw [show (5 < nI i) = (5 < i) from propext (nI_ltI (a := 5) (b := i) (by omega) (by omega))] at c_1
        refine lv_aload_n C.1.1 C.1.2.1 dX6_comes_16 rfl (lv_at hl 0 rfl) ?_
        refine lv_iload_n C.1.1 C.1.2.1 dX6_comes_17 rfl (lv_at hl 3 rfl) ?_
        refine lv_iload C.1.1 C.1.2.1 dX6_comes_18 (lv_at hl 4 rfl) ?_
        refine lv_iconst (v := 0) C.1.1 C.1.2.1 dX6_comes_20 rfl ?_
        refine a_G hS (run_V C hP hS hl.1 53 6 (Nat.lt_of_lt_of_le (by decide) hn) rfl (by decide) rfl [.int (nI N), .int (nI i), .int 0] (kX6_sets l g n (upw v 54 (zrM (v.1 54) N i)) N i 0 (by omega) (by omega)) gX6_comes_X6_sets rfl hdX6_sets rfl ⟨rfl, rfl⟩ ⟨Nat.le_of_ble_eq_true rfl, Nat.le_of_ble_eq_true rfl⟩ rfl [] rfl (Nat.le_of_ble_eq_true rfl) dX6_comes_21 ⟨Nat.zero_le _, Nat.zero_le _⟩) (fun H locs hP hS => ?_)
        obtain ⟨d_6, hd_6⟩ : ∃ zz, zz = upd (zrM (v.1 54) N i) (25 + 8 * i + N) 0 := ⟨_, rfl⟩
        rw [show up (upw v 54 (zrM (v.1 54) N i)) 54 (25 + 8 * i + N) 0 = upw v 54 d_6 from by rw [hd_6]; exact upw_up _ _ _ _ _] at hP
        refine lv_iinc (v := nI (i + 1)) (lv' := [(4, .int (nI (i + 1))), (0, .ref (gA g 53)), (1, .int x), (2, .int y), (3, .int (nI N))]) C.1.1 C.1.2.1 dX6_comes_24 hl (k := 4) rfl (nI_1 i) (by decide) rfl (fun ls hl => ?_)
        refine lv_goto (tgt := 10) C.1.1 C.1.2.1 dX6_comes_27 (by decide) ?_
        exact ih_10 (i + 1) (by omega) (by omega) _ _ _ (by rw [show zrM (v.1 54) N (i + 1) = d_6 from hd_6.symm]; exact hP) hS (lv_sub hl [1, 2, 3, 4, 0] rfl)
  exact lp_10 (6 + 1) 0 (Nat.zero_le _) (by omega) _ _ _ (by rw [show zrM (v.1 54) N 0 = v.1 54 from rfl, upw_self]; exact hP) hS (lv_sub hl [2, 3, 4, 1, 0] rfl)

abbrev rmX6_resident : Room := { frames := 2, cells := 0, slots := 0, locals := 47 }
set_option maxHeartbeats 4000000 in
set_option maxRecDepth 100000 in
theorem kX6_resident (l : Launch) (g : GG) (n : Nat) (v : SV) (x y : Int32) (N : Nat) (hM : okM (v.1 54) N) : Met l yX6_resident wsX6_resident rmX6_resident (PW g n v [.ref (gA g 53), .int x, .int y]) (QF g n ((residentM v x y).1) ((residentM v x y).2)) 0 0 (wA g n) := by
  refine Met.begin RX6 rfl (by decide) rfl (Nat.le_of_ble_eq_true rfl) ?_
  intro p e s m args below meth c ls ha C hP hS hl
  have hn : 64 ≤ n := C.2.1.1.2.1
  have hi6 : ∀ w ∈ u_ws RX6 TX6 17, w ∈ wsX6_resident := by decide +kernel
  have hl : lv_has ls 3 [(0, .ref (gA g 53)), (1, .int x), (2, .int y)] := hl
  have h8 := hM.1
  refine lv_iload_n C.1.1 C.1.2.1 dX6_resident_0 rfl (lv_at hl 1 rfl) ?_
  refine lv_i2l (v := x.toInt64) C.1.1 C.1.2.1 dX6_resident_1 rfl ?_
  refine lv_lconst (v := 0) C.1.1 C.1.2.1 dX6_resident_2 rfl ?_
  refine lv_ldc2 (v := 6) C.1.1 C.1.2.1 C.1.2.2.2.1 (C.1.2.2.2.2 _ (List.mem_of_getElem? (i := 1) rfl)) dX6_resident_3 ?_
  refine a_B hS (run_S C hP hS hl.1 [.long x.toInt64, .long 0, .long 6] (kX6_in l g n v x.toInt64 0 6) gX6_resident_X6_in hdX6_in rfl ⟨rfl, rfl⟩ ⟨Nat.le_of_ble_eq_true rfl, Nat.le_of_ble_eq_true rfl⟩ rfl [] rfl (Nat.le_of_ble_eq_true rfl) dX6_resident_6 ⟨Nat.zero_le _, Nat.zero_le _⟩) (fun b_1 H locs hP hS => ?_) (fun b_1 H locs hP hS => ?_)
  · skip
    have b_1 := (in_iff 7 (by decide) (by decide)).mp b_1
    obtain ⟨jx, hjx, rfl⟩ := b_1
    refine lv_if_eq (tgt := 19) C.1.1 C.1.2.1 dX6_resident_9 (by decide) (fun c_2 => absurd c_2 (by decide)) (fun _ => ?_)
    refine lv_iload_n C.1.1 C.1.2.1 dX6_resident_12 rfl (lv_at hl 2 rfl) ?_
    refine a_B hS (run_S C hP hS hl.1 [.int y] (kX6_isDoor l g n v y) gX6_resident_X6_isDoor hdX6_isDoor rfl ⟨rfl, rfl⟩ ⟨Nat.le_of_ble_eq_true rfl, Nat.le_of_ble_eq_true rfl⟩ rfl [] rfl (Nat.le_of_ble_eq_true rfl) dX6_resident_13 ⟨Nat.zero_le _, Nat.zero_le _⟩) (fun b_3 H locs hP hS => ?_) (fun b_3 H locs hP hS => ?_)
    · skip
      obtain ⟨jy, hjy, rfl⟩ := b_3
      refine lv_if_ne (tgt := 25) C.1.1 C.1.2.1 dX6_resident_16 (by decide) (fun _ => ?_) (fun c_4 => absurd c_4 (by decide))
      refine lv_aload_n C.1.1 C.1.2.1 dX6_resident_25 rfl (lv_at hl 0 rfl) ?_
      refine r_get C hP 53 6 (Nat.lt_of_lt_of_le (by decide) hn) rfl (by decide) rfl hi6 0 (by decide) (List.mem_of_getElem? (i := 2) rfl) rfl (val := .ref (gA g 54)) rfl dX6_resident_26 ?_
      refine lv_iconst (v := 0) C.1.1 C.1.2.1 dX6_resident_29 rfl ?_
      refine r_iald C hP 54 (Nat.lt_of_lt_of_le (by decide) hn) rfl 0 rfl (N := 83) rfl (by decide) (by omega) dX6_resident_30 ?_
      refine lv_topE (nI N) hM.2.1 ?_
      refine lv_bipush (v := 8) C.1.1 C.1.2.1 dX6_resident_31 rfl ?_
      refine lv_icmp_ne (tgt := 44) C.1.1 C.1.2.1 dX6_resident_33 (by decide) (fun c_5 => ?_) (fun c_5 => ?_)
      · rw [show (nI N = 8) = (N = 8) from propext (nI_eq (a := N) (b := 8) (by omega) (by omega))] at c_5
        refine lv_aload_n C.1.1 C.1.2.1 dX6_resident_44 rfl (lv_at hl 0 rfl) ?_
        refine lv_iload_n C.1.1 C.1.2.1 dX6_resident_45 rfl (lv_at hl 1 rfl) ?_
        refine lv_iload_n C.1.1 C.1.2.1 dX6_resident_46 rfl (lv_at hl 2 rfl) ?_
        refine a_F hS (run_V C hP hS hl.1 53 6 (Nat.lt_of_lt_of_le (by decide) hn) rfl (by decide) rfl [.int (nI jx), .int (nI jy)] (kX6_comes l g n v (nI jx) (nI jy) N hM (by omega)) gX6_resident_X6_comes rfl hdX6_comes rfl ⟨rfl, rfl⟩ ⟨Nat.le_of_ble_eq_true rfl, Nat.le_of_ble_eq_true rfl⟩ rfl [] rfl (Nat.le_of_ble_eq_true rfl) dX6_resident_47 ⟨Nat.zero_le _, Nat.zero_le _⟩) (fun H locs hP hS => ?_)
        obtain ⟨v_6, hv_6⟩ : ∃ zz, zz = upw v 54 (comesM (v.1 54) N (nI jx) (nI jy)) := ⟨_, rfl⟩
        rw [← hv_6] at hP
        refine lv_topE (nI N) hM.2.1 ?_
        exact t_F C rfl hP hS (by (rw [residentM, nM_eq hM]; rw [cif_pos ⟨jx, hjx, rfl⟩]; rw [cif_pos ⟨jy, hjy, rfl⟩]) <;> try simp only [fdM, upw_same, eq_self, if_true, if_false, ite_true, ite_false, ↓reduceIte, c_5, tn_nI (show jx < 2 ^ 31 by omega), tn_nI (show jy < 2 ^ 31 by omega), hv_6, nM_eq hM, hM.2.1]) (by (rw [residentM, nM_eq hM]; rw [cif_pos ⟨jx, hjx, rfl⟩]; rw [cif_pos ⟨jy, hjy, rfl⟩]) <;> try simp only [fdM, upw_same, eq_self, if_true, if_false, ite_true, ite_false, ↓reduceIte, c_5, tn_nI (show jx < 2 ^ 31 by omega), tn_nI (show jy < 2 ^ 31 by omega), hv_6, nM_eq hM, hM.2.1]) dX6_resident_50
      · rw [show (nI N = 8) = (N = 8) from propext (nI_eq (a := N) (b := 8) (by omega) (by omega))] at c_5
        refine lv_aload_n C.1.1 C.1.2.1 dX6_resident_36 rfl (lv_at hl 0 rfl) ?_
        refine lv_iconst (v := 1) C.1.1 C.1.2.1 dX6_resident_37 rfl ?_
        refine a_F hS (run_V C hP hS hl.1 53 6 (Nat.lt_of_lt_of_le (by decide) hn) rfl (by decide) rfl [.int 1] (kX6_finds l g n v 1 (by decide)) gX6_resident_X6_finds rfl hdX6_finds rfl ⟨rfl, rfl⟩ ⟨Nat.le_of_ble_eq_true rfl, Nat.le_of_ble_eq_true rfl⟩ rfl [] rfl (Nat.le_of_ble_eq_true rfl) dX6_resident_38 ⟨Nat.zero_le _, Nat.zero_le _⟩) (fun H locs hP hS => ?_)
        obtain ⟨v_7, hv_7⟩ : ∃ zz, zz = fnd v 1 := ⟨_, rfl⟩
        rw [← hv_7] at hP
        refine lv_goto (tgt := 50) C.1.1 C.1.2.1 dX6_resident_41 (by decide) ?_
        exact t_F C rfl hP hS (by (rw [residentM, nM_eq hM]; rw [cif_pos ⟨jx, hjx, rfl⟩]; rw [cif_pos ⟨jy, hjy, rfl⟩]) <;> try simp only [fdM, upw_same, eq_self, if_true, if_false, ite_true, ite_false, ↓reduceIte, c_5, tn_nI (show jx < 2 ^ 31 by omega), tn_nI (show jy < 2 ^ 31 by omega), hv_7, nM_eq hM, hM.2.1]) (by (rw [residentM, nM_eq hM]; rw [cif_pos ⟨jx, hjx, rfl⟩]; rw [cif_pos ⟨jy, hjy, rfl⟩]) <;> try simp only [fdM, upw_same, eq_self, if_true, if_false, ite_true, ite_false, ↓reduceIte, c_5, tn_nI (show jx < 2 ^ 31 by omega), tn_nI (show jy < 2 ^ 31 by omega), hv_7, nM_eq hM, hM.2.1]) dX6_resident_50
    · skip
      refine lv_if_ne (tgt := 25) C.1.1 C.1.2.1 dX6_resident_16 (by decide) (fun c_8 => absurd c_8 (by decide)) (fun _ => ?_)
      refine lv_aload_n C.1.1 C.1.2.1 dX6_resident_19 rfl (lv_at hl 0 rfl) ?_
      refine lv_iconst (v := 0) C.1.1 C.1.2.1 dX6_resident_20 rfl ?_
      refine a_F hS (run_V C hP hS hl.1 53 6 (Nat.lt_of_lt_of_le (by decide) hn) rfl (by decide) rfl [.int 0] (kX6_finds l g n v 0 (by decide)) gX6_resident_X6_finds rfl hdX6_finds rfl ⟨rfl, rfl⟩ ⟨Nat.le_of_ble_eq_true rfl, Nat.le_of_ble_eq_true rfl⟩ rfl [] rfl (Nat.le_of_ble_eq_true rfl) dX6_resident_21 ⟨Nat.zero_le _, Nat.zero_le _⟩) (fun H locs hP hS => ?_)
      obtain ⟨v_9, hv_9⟩ : ∃ zz, zz = fnd v 0 := ⟨_, rfl⟩
      rw [← hv_9] at hP
      exact t_F C rfl hP hS (by (rw [residentM, nM_eq hM]; rw [cif_pos ⟨jx, hjx, rfl⟩]; (try simp only [tn_nI (show jx < 2 ^ 31 by omega)]); rw [cif_neg b_3]) <;> try simp only [fdM, upw_same, eq_self, if_true, if_false, ite_true, ite_false, ↓reduceIte, tn_nI (show jx < 2 ^ 31 by omega), hv_9, nM_eq hM, hM.2.1]) (by (rw [residentM, nM_eq hM]; rw [cif_pos ⟨jx, hjx, rfl⟩]; (try simp only [tn_nI (show jx < 2 ^ 31 by omega)]); rw [cif_neg b_3]) <;> try simp only [fdM, upw_same, eq_self, if_true, if_false, ite_true, ite_false, ↓reduceIte, tn_nI (show jx < 2 ^ 31 by omega), hv_9, nM_eq hM, hM.2.1]) dX6_resident_24
  · skip
    have b_1 := fun h => b_1 ((in_iff 7 (by decide) (by decide)).mpr h)
    refine lv_if_eq (tgt := 19) C.1.1 C.1.2.1 dX6_resident_9 (by decide) (fun _ => ?_) (fun c_10 => absurd c_10 (by decide))
    refine lv_aload_n C.1.1 C.1.2.1 dX6_resident_19 rfl (lv_at hl 0 rfl) ?_
    refine lv_iconst (v := 0) C.1.1 C.1.2.1 dX6_resident_20 rfl ?_
    refine a_F hS (run_V C hP hS hl.1 53 6 (Nat.lt_of_lt_of_le (by decide) hn) rfl (by decide) rfl [.int 0] (kX6_finds l g n v 0 (by decide)) gX6_resident_X6_finds rfl hdX6_finds rfl ⟨rfl, rfl⟩ ⟨Nat.le_of_ble_eq_true rfl, Nat.le_of_ble_eq_true rfl⟩ rfl [] rfl (Nat.le_of_ble_eq_true rfl) dX6_resident_21 ⟨Nat.zero_le _, Nat.zero_le _⟩) (fun H locs hP hS => ?_)
    obtain ⟨v_11, hv_11⟩ : ∃ zz, zz = fnd v 0 := ⟨_, rfl⟩
    rw [← hv_11] at hP
    exact t_F C rfl hP hS (by (rw [residentM, nM_eq hM]; rw [cif_neg b_1]) <;> try simp only [fdM, upw_same, eq_self, if_true, if_false, ite_true, ite_false, ↓reduceIte, hv_11, nM_eq hM, hM.2.1]) (by (rw [residentM, nM_eq hM]; rw [cif_neg b_1]) <;> try simp only [fdM, upw_same, eq_self, if_true, if_false, ite_true, ite_false, ↓reduceIte, hv_11, nM_eq hM, hM.2.1]) dX6_resident_24

abbrev rmX6_of : Room := { frames := 2, cells := 0, slots := 0, locals := 46 }
set_option maxHeartbeats 4000000 in
set_option maxRecDepth 100000 in
theorem kX6_of (l : Launch) (g : GG) (n : Nat) (v : SV) (x y : Int32) (N : Nat) (hM : okM (v.1 54) N) : Met l yX6_of wsX6_of rmX6_of (PW g n v [.ref (gA g 53), .int x, .int y]) (QF g n ((ofM v x y).1) ((ofM v x y).2)) 0 0 (wA g n) := by
  refine Met.begin RX6 rfl (by decide) rfl (Nat.le_of_ble_eq_true rfl) ?_
  intro p e s m args below meth c ls ha C hP hS hl
  have hn : 64 ≤ n := C.2.1.1.2.1
  have hi6 : ∀ w ∈ u_ws RX6 TX6 17, w ∈ wsX6_of := by decide +kernel
  have hl : lv_has ls 3 [(0, .ref (gA g 53)), (1, .int x), (2, .int y)] := hl
  have h8 := hM.1
  refine lv_aload_n C.1.1 C.1.2.1 dX6_of_0 rfl (lv_at hl 0 rfl) ?_
  refine lv_iload_n C.1.1 C.1.2.1 dX6_of_1 rfl (lv_at hl 1 rfl) ?_
  refine a_B hS (run_V C hP hS hl.1 53 6 (Nat.lt_of_lt_of_le (by decide) hn) rfl (by decide) rfl [.int x] (kX6_isResident l g n v x N hM) gX6_of_X6_isResident rfl hdX6_isResident rfl ⟨rfl, rfl⟩ ⟨Nat.le_of_ble_eq_true rfl, Nat.le_of_ble_eq_true rfl⟩ rfl [] rfl (Nat.le_of_ble_eq_true rfl) dX6_of_2 ⟨Nat.zero_le _, Nat.zero_le _⟩) (fun b_1 H locs hP hS => ?_) (fun b_1 H locs hP hS => ?_)
  · skip
    obtain ⟨jx, hjx, rfl⟩ := b_1
    refine lv_if_eq (tgt := 20) C.1.1 C.1.2.1 dX6_of_5 (by decide) (fun c_2 => absurd c_2 (by decide)) (fun _ => ?_)
    refine lv_iload_n C.1.1 C.1.2.1 dX6_of_8 rfl (lv_at hl 2 rfl) ?_
    refine lv_i2l (v := y.toInt64) C.1.1 C.1.2.1 dX6_of_9 rfl ?_
    refine lv_lconst (v := 0) C.1.1 C.1.2.1 dX6_of_10 rfl ?_
    refine lv_ldc2 (v := 10) C.1.1 C.1.2.1 C.1.2.2.2.1 (C.1.2.2.2.2 _ (List.mem_of_getElem? (i := 1) rfl)) dX6_of_11 ?_
    refine a_B hS (run_S C hP hS hl.1 [.long y.toInt64, .long 0, .long 10] (kX6_in l g n v y.toInt64 0 10) gX6_of_X6_in hdX6_in rfl ⟨rfl, rfl⟩ ⟨Nat.le_of_ble_eq_true rfl, Nat.le_of_ble_eq_true rfl⟩ rfl [] rfl (Nat.le_of_ble_eq_true rfl) dX6_of_14 ⟨Nat.zero_le _, Nat.zero_le _⟩) (fun b_3 H locs hP hS => ?_) (fun b_3 H locs hP hS => ?_)
    · skip
      have b_3 := (in_iff 11 (by decide) (by decide)).mp b_3
      obtain ⟨jy, hjy, rfl⟩ := b_3
      refine lv_if_ne (tgt := 26) C.1.1 C.1.2.1 dX6_of_17 (by decide) (fun _ => ?_) (fun c_4 => absurd c_4 (by decide))
      refine lv_iload_n C.1.1 C.1.2.1 dX6_of_26 rfl (lv_at hl 2 rfl) ?_
      by_cases c_5 : nI jy = 6
      · refine lv_topE 6 c_5 ?_
        refine lv_tableIn (off := 33) (tgt := 60) C.1.1 C.1.2.1 dX6_of_27 (by decide) (by decide) rfl (by decide) ?_
        refine lv_aload_n C.1.1 C.1.2.1 dX6_of_60 rfl (lv_at hl 0 rfl) ?_
        refine lv_iload_n C.1.1 C.1.2.1 dX6_of_61 rfl (lv_at hl 1 rfl) ?_
        refine a_F hS (run_V C hP hS hl.1 53 6 (Nat.lt_of_lt_of_le (by decide) hn) rfl (by decide) rfl [.int (nI jx)] (kX6_hears l g n v jx (by omega)) gX6_of_X6_hears rfl hdX6_hears rfl ⟨rfl, rfl⟩ ⟨Nat.le_of_ble_eq_true rfl, Nat.le_of_ble_eq_true rfl⟩ rfl [] rfl (Nat.le_of_ble_eq_true rfl) dX6_of_62 ⟨Nat.zero_le _, Nat.zero_le _⟩) (fun H locs hP hS => ?_)
        exact t_F C rfl hP hS (by (rw [ofM, nM_eq hM]; rw [cif_pos ⟨jx, hjx, rfl⟩]; rw [cif_pos ⟨jy, hjy, rfl⟩]) <;> try simp only [fdM, upw_same, eq_self, if_true, if_false, ite_true, ite_false, ↓reduceIte, c_5, tn_nI (show jx < 2 ^ 31 by omega), tn_nI (show jy < 2 ^ 31 by omega), nM_eq hM, tellF_6, tellF_7, tellF_8, tellF_9, tellF_10]) (by (rw [ofM, nM_eq hM]; rw [cif_pos ⟨jx, hjx, rfl⟩]; rw [cif_pos ⟨jy, hjy, rfl⟩]) <;> try simp only [fdM, upw_same, eq_self, if_true, if_false, ite_true, ite_false, ↓reduceIte, c_5, tn_nI (show jx < 2 ^ 31 by omega), tn_nI (show jy < 2 ^ 31 by omega), nM_eq hM, tellF_6, tellF_7, tellF_8, tellF_9, tellF_10]) dX6_of_65
      by_cases c_6 : nI jy = 7
      · refine lv_topE 7 c_6 ?_
        refine lv_tableIn (off := 39) (tgt := 66) C.1.1 C.1.2.1 dX6_of_27 (by decide) (by decide) rfl (by decide) ?_
        refine lv_aload_n C.1.1 C.1.2.1 dX6_of_66 rfl (lv_at hl 0 rfl) ?_
        refine lv_iload_n C.1.1 C.1.2.1 dX6_of_67 rfl (lv_at hl 1 rfl) ?_
        refine a_F hS (run_V C hP hS hl.1 53 6 (Nat.lt_of_lt_of_le (by decide) hn) rfl (by decide) rfl [.int (nI jx)] (kX6_trusts l g n v jx (by omega)) gX6_of_X6_trusts rfl hdX6_trusts rfl ⟨rfl, rfl⟩ ⟨Nat.le_of_ble_eq_true rfl, Nat.le_of_ble_eq_true rfl⟩ rfl [] rfl (Nat.le_of_ble_eq_true rfl) dX6_of_68 ⟨Nat.zero_le _, Nat.zero_le _⟩) (fun H locs hP hS => ?_)
        exact t_F C rfl hP hS (by (rw [ofM, nM_eq hM]; rw [cif_pos ⟨jx, hjx, rfl⟩]; rw [cif_pos ⟨jy, hjy, rfl⟩]) <;> try simp only [fdM, upw_same, eq_self, if_true, if_false, ite_true, ite_false, ↓reduceIte, c_6, tn_nI (show jx < 2 ^ 31 by omega), tn_nI (show jy < 2 ^ 31 by omega), nM_eq hM, tellF_6, tellF_7, tellF_8, tellF_9, tellF_10]) (by (rw [ofM, nM_eq hM]; rw [cif_pos ⟨jx, hjx, rfl⟩]; rw [cif_pos ⟨jy, hjy, rfl⟩]) <;> try simp only [fdM, upw_same, eq_self, if_true, if_false, ite_true, ite_false, ↓reduceIte, c_6, tn_nI (show jx < 2 ^ 31 by omega), tn_nI (show jy < 2 ^ 31 by omega), nM_eq hM, tellF_6, tellF_7, tellF_8, tellF_9, tellF_10]) dX6_of_71
      by_cases c_7 : nI jy = 8
      · refine lv_topE 8 c_7 ?_
        refine lv_tableIn (off := 45) (tgt := 72) C.1.1 C.1.2.1 dX6_of_27 (by decide) (by decide) rfl (by decide) ?_
        refine lv_aload_n C.1.1 C.1.2.1 dX6_of_72 rfl (lv_at hl 0 rfl) ?_
        refine lv_iload_n C.1.1 C.1.2.1 dX6_of_73 rfl (lv_at hl 1 rfl) ?_
        refine a_F hS (run_V C hP hS hl.1 53 6 (Nat.lt_of_lt_of_le (by decide) hn) rfl (by decide) rfl [.int (nI jx)] (kX6_loses l g n v jx (by omega)) gX6_of_X6_loses rfl hdX6_loses rfl ⟨rfl, rfl⟩ ⟨Nat.le_of_ble_eq_true rfl, Nat.le_of_ble_eq_true rfl⟩ rfl [] rfl (Nat.le_of_ble_eq_true rfl) dX6_of_74 ⟨Nat.zero_le _, Nat.zero_le _⟩) (fun H locs hP hS => ?_)
        exact t_F C rfl hP hS (by (rw [ofM, nM_eq hM]; rw [cif_pos ⟨jx, hjx, rfl⟩]; rw [cif_pos ⟨jy, hjy, rfl⟩]) <;> try simp only [fdM, upw_same, eq_self, if_true, if_false, ite_true, ite_false, ↓reduceIte, c_7, tn_nI (show jx < 2 ^ 31 by omega), tn_nI (show jy < 2 ^ 31 by omega), nM_eq hM, tellF_6, tellF_7, tellF_8, tellF_9, tellF_10]) (by (rw [ofM, nM_eq hM]; rw [cif_pos ⟨jx, hjx, rfl⟩]; rw [cif_pos ⟨jy, hjy, rfl⟩]) <;> try simp only [fdM, upw_same, eq_self, if_true, if_false, ite_true, ite_false, ↓reduceIte, c_7, tn_nI (show jx < 2 ^ 31 by omega), tn_nI (show jy < 2 ^ 31 by omega), nM_eq hM, tellF_6, tellF_7, tellF_8, tellF_9, tellF_10]) dX6_of_77
      by_cases c_8 : nI jy = 9
      · refine lv_topE 9 c_8 ?_
        refine lv_tableIn (off := 51) (tgt := 78) C.1.1 C.1.2.1 dX6_of_27 (by decide) (by decide) rfl (by decide) ?_
        refine lv_aload_n C.1.1 C.1.2.1 dX6_of_78 rfl (lv_at hl 0 rfl) ?_
        refine lv_iload_n C.1.1 C.1.2.1 dX6_of_79 rfl (lv_at hl 1 rfl) ?_
        refine a_F hS (run_V C hP hS hl.1 53 6 (Nat.lt_of_lt_of_le (by decide) hn) rfl (by decide) rfl [.int (nI jx)] (kX6_mends l g n v jx (by omega)) gX6_of_X6_mends rfl hdX6_mends rfl ⟨rfl, rfl⟩ ⟨Nat.le_of_ble_eq_true rfl, Nat.le_of_ble_eq_true rfl⟩ rfl [] rfl (Nat.le_of_ble_eq_true rfl) dX6_of_80 ⟨Nat.zero_le _, Nat.zero_le _⟩) (fun H locs hP hS => ?_)
        exact t_F C rfl hP hS (by (rw [ofM, nM_eq hM]; rw [cif_pos ⟨jx, hjx, rfl⟩]; rw [cif_pos ⟨jy, hjy, rfl⟩]) <;> try simp only [fdM, upw_same, eq_self, if_true, if_false, ite_true, ite_false, ↓reduceIte, c_8, tn_nI (show jx < 2 ^ 31 by omega), tn_nI (show jy < 2 ^ 31 by omega), nM_eq hM, tellF_6, tellF_7, tellF_8, tellF_9, tellF_10]) (by (rw [ofM, nM_eq hM]; rw [cif_pos ⟨jx, hjx, rfl⟩]; rw [cif_pos ⟨jy, hjy, rfl⟩]) <;> try simp only [fdM, upw_same, eq_self, if_true, if_false, ite_true, ite_false, ↓reduceIte, c_8, tn_nI (show jx < 2 ^ 31 by omega), tn_nI (show jy < 2 ^ 31 by omega), nM_eq hM, tellF_6, tellF_7, tellF_8, tellF_9, tellF_10]) dX6_of_83
      by_cases c_9 : nI jy = 10
      · refine lv_topE 10 c_9 ?_
        refine lv_tableIn (off := 57) (tgt := 84) C.1.1 C.1.2.1 dX6_of_27 (by decide) (by decide) rfl (by decide) ?_
        refine lv_aload_n C.1.1 C.1.2.1 dX6_of_84 rfl (lv_at hl 0 rfl) ?_
        refine lv_iload_n C.1.1 C.1.2.1 dX6_of_85 rfl (lv_at hl 1 rfl) ?_
        refine a_F hS (run_V C hP hS hl.1 53 6 (Nat.lt_of_lt_of_le (by decide) hn) rfl (by decide) rfl [.int (nI jx)] (kX6_far l g n v jx (by omega)) gX6_of_X6_far rfl hdX6_far rfl ⟨rfl, rfl⟩ ⟨Nat.le_of_ble_eq_true rfl, Nat.le_of_ble_eq_true rfl⟩ rfl [] rfl (Nat.le_of_ble_eq_true rfl) dX6_of_86 ⟨Nat.zero_le _, Nat.zero_le _⟩) (fun H locs hP hS => ?_)
        exact t_F C rfl hP hS (by (rw [ofM, nM_eq hM]; rw [cif_pos ⟨jx, hjx, rfl⟩]; rw [cif_pos ⟨jy, hjy, rfl⟩]) <;> try simp only [fdM, upw_same, eq_self, if_true, if_false, ite_true, ite_false, ↓reduceIte, c_9, tn_nI (show jx < 2 ^ 31 by omega), tn_nI (show jy < 2 ^ 31 by omega), nM_eq hM, tellF_6, tellF_7, tellF_8, tellF_9, tellF_10]) (by (rw [ofM, nM_eq hM]; rw [cif_pos ⟨jx, hjx, rfl⟩]; rw [cif_pos ⟨jy, hjy, rfl⟩]) <;> try simp only [fdM, upw_same, eq_self, if_true, if_false, ite_true, ite_false, ↓reduceIte, c_9, tn_nI (show jx < 2 ^ 31 by omega), tn_nI (show jy < 2 ^ 31 by omega), nM_eq hM, tellF_6, tellF_7, tellF_8, tellF_9, tellF_10]) dX6_of_89
      have hsw : (nI jy).toInt < 6 ∨ 10 < (nI jy).toInt := by
        have qc_5 := lv_neT (a := 6) c_5 rfl
        have qc_6 := lv_neT (a := 7) c_6 rfl
        have qc_7 := lv_neT (a := 8) c_7 rfl
        have qc_8 := lv_neT (a := 9) c_8 rfl
        have qc_9 := lv_neT (a := 10) c_9 rfl
        omega
      refine lv_tableOut (tgt := 90) C.1.1 C.1.2.1 dX6_of_27 hsw (by decide) ?_
      rw [nI_toInt (by omega)] at hsw
      refine lv_aload_n C.1.1 C.1.2.1 dX6_of_90 rfl (lv_at hl 0 rfl) ?_
      refine lv_iload_n C.1.1 C.1.2.1 dX6_of_91 rfl (lv_at hl 1 rfl) ?_
      refine lv_iload_n C.1.1 C.1.2.1 dX6_of_92 rfl (lv_at hl 2 rfl) ?_
      refine a_F hS (run_V C hP hS hl.1 53 6 (Nat.lt_of_lt_of_le (by decide) hn) rfl (by decide) rfl [.int (nI jx), .int (nI jy)] (kX6_its l g n v jx jy (by omega) (by omega)) gX6_of_X6_its rfl hdX6_its rfl ⟨rfl, rfl⟩ ⟨Nat.le_of_ble_eq_true rfl, Nat.le_of_ble_eq_true rfl⟩ rfl [] rfl (Nat.le_of_ble_eq_true rfl) dX6_of_93 ⟨Nat.zero_le _, Nat.zero_le _⟩) (fun H locs hP hS => ?_)
      exact t_F C rfl hP hS (by rw [ofM, nM_eq hM, cif_pos ⟨jx, hjx, rfl⟩, cif_pos ⟨jy, hjy, rfl⟩, tn_nI (show jx < 2 ^ 31 by omega), tellF_lt (by omega)]) (by (rw [ofM, nM_eq hM]; rw [cif_pos ⟨jx, hjx, rfl⟩]; rw [cif_pos ⟨jy, hjy, rfl⟩]) <;> try simp only [fdM, upw_same, eq_self, if_true, if_false, ite_true, ite_false, ↓reduceIte, c_5, c_6, c_7, c_8, c_9, tn_nI (show jx < 2 ^ 31 by omega), tn_nI (show jy < 2 ^ 31 by omega), nM_eq hM, tellF_6, tellF_7, tellF_8, tellF_9, tellF_10]) dX6_of_96
    · skip
      have b_3 := fun h => b_3 ((in_iff 11 (by decide) (by decide)).mpr h)
      refine lv_if_ne (tgt := 26) C.1.1 C.1.2.1 dX6_of_17 (by decide) (fun c_10 => absurd c_10 (by decide)) (fun _ => ?_)
      refine lv_aload_n C.1.1 C.1.2.1 dX6_of_20 rfl (lv_at hl 0 rfl) ?_
      refine lv_iconst (v := 0) C.1.1 C.1.2.1 dX6_of_21 rfl ?_
      refine a_F hS (run_V C hP hS hl.1 53 6 (Nat.lt_of_lt_of_le (by decide) hn) rfl (by decide) rfl [.int 0] (kX6_finds l g n v 0 (by decide)) gX6_of_X6_finds rfl hdX6_finds rfl ⟨rfl, rfl⟩ ⟨Nat.le_of_ble_eq_true rfl, Nat.le_of_ble_eq_true rfl⟩ rfl [] rfl (Nat.le_of_ble_eq_true rfl) dX6_of_22 ⟨Nat.zero_le _, Nat.zero_le _⟩) (fun H locs hP hS => ?_)
      obtain ⟨v_11, hv_11⟩ : ∃ zz, zz = fnd v 0 := ⟨_, rfl⟩
      rw [← hv_11] at hP
      exact t_F C rfl hP hS (by (rw [ofM, nM_eq hM]; rw [cif_pos ⟨jx, hjx, rfl⟩]; (try simp only [tn_nI (show jx < 2 ^ 31 by omega)]); rw [cif_neg b_3]) <;> try simp only [fdM, upw_same, eq_self, if_true, if_false, ite_true, ite_false, ↓reduceIte, tn_nI (show jx < 2 ^ 31 by omega), hv_11, nM_eq hM, tellF_6, tellF_7, tellF_8, tellF_9, tellF_10]) (by (rw [ofM, nM_eq hM]; rw [cif_pos ⟨jx, hjx, rfl⟩]; (try simp only [tn_nI (show jx < 2 ^ 31 by omega)]); rw [cif_neg b_3]) <;> try simp only [fdM, upw_same, eq_self, if_true, if_false, ite_true, ite_false, ↓reduceIte, tn_nI (show jx < 2 ^ 31 by omega), hv_11, nM_eq hM, tellF_6, tellF_7, tellF_8, tellF_9, tellF_10]) dX6_of_25
  · skip
    refine lv_if_eq (tgt := 20) C.1.1 C.1.2.1 dX6_of_5 (by decide) (fun _ => ?_) (fun c_12 => absurd c_12 (by decide))
    refine lv_aload_n C.1.1 C.1.2.1 dX6_of_20 rfl (lv_at hl 0 rfl) ?_
    refine lv_iconst (v := 0) C.1.1 C.1.2.1 dX6_of_21 rfl ?_
    refine a_F hS (run_V C hP hS hl.1 53 6 (Nat.lt_of_lt_of_le (by decide) hn) rfl (by decide) rfl [.int 0] (kX6_finds l g n v 0 (by decide)) gX6_of_X6_finds rfl hdX6_finds rfl ⟨rfl, rfl⟩ ⟨Nat.le_of_ble_eq_true rfl, Nat.le_of_ble_eq_true rfl⟩ rfl [] rfl (Nat.le_of_ble_eq_true rfl) dX6_of_22 ⟨Nat.zero_le _, Nat.zero_le _⟩) (fun H locs hP hS => ?_)
    obtain ⟨v_13, hv_13⟩ : ∃ zz, zz = fnd v 0 := ⟨_, rfl⟩
    rw [← hv_13] at hP
    exact t_F C rfl hP hS (by (rw [ofM, nM_eq hM]; rw [cif_neg b_1]) <;> try simp only [fdM, upw_same, eq_self, if_true, if_false, ite_true, ite_false, ↓reduceIte, hv_13, nM_eq hM, tellF_6, tellF_7, tellF_8, tellF_9, tellF_10]) (by (rw [ofM, nM_eq hM]; rw [cif_neg b_1]) <;> try simp only [fdM, upw_same, eq_self, if_true, if_false, ite_true, ite_false, ↓reduceIte, hv_13, nM_eq hM, tellF_6, tellF_7, tellF_8, tellF_9, tellF_10]) dX6_of_25

abbrev rmX6_tempted : Room := { frames := 2, cells := 0, slots := 0, locals := 46 }
set_option maxHeartbeats 4000000 in
set_option maxRecDepth 100000 in
theorem kX6_tempted (l : Launch) (g : GG) (n : Nat) (v : SV) (x y : Int32) (N : Nat) (hM : okM (v.1 54) N) : Met l yX6_tempted wsX6_tempted rmX6_tempted (PW g n v [.ref (gA g 53), .int x, .int y]) (QF g n ((temptedM v x y).1) ((temptedM v x y).2)) 0 0 (wA g n) := by
  refine Met.begin RX6 rfl (by decide) rfl (Nat.le_of_ble_eq_true rfl) ?_
  intro p e s m args below meth c ls ha C hP hS hl
  have hn : 64 ≤ n := C.2.1.1.2.1
  have hi6 : ∀ w ∈ u_ws RX6 TX6 17, w ∈ wsX6_tempted := by decide +kernel
  have hl : lv_has ls 3 [(0, .ref (gA g 53)), (1, .int x), (2, .int y)] := hl
  have h8 := hM.1
  refine lv_aload_n C.1.1 C.1.2.1 dX6_tempted_0 rfl (lv_at hl 0 rfl) ?_
  refine lv_iload_n C.1.1 C.1.2.1 dX6_tempted_1 rfl (lv_at hl 1 rfl) ?_
  refine a_B hS (run_V C hP hS hl.1 53 6 (Nat.lt_of_lt_of_le (by decide) hn) rfl (by decide) rfl [.int x] (kX6_isResident l g n v x N hM) gX6_tempted_X6_isResident rfl hdX6_isResident rfl ⟨rfl, rfl⟩ ⟨Nat.le_of_ble_eq_true rfl, Nat.le_of_ble_eq_true rfl⟩ rfl [] rfl (Nat.le_of_ble_eq_true rfl) dX6_tempted_2 ⟨Nat.zero_le _, Nat.zero_le _⟩) (fun b_1 H locs hP hS => ?_) (fun b_1 H locs hP hS => ?_)
  · skip
    obtain ⟨jx, hjx, rfl⟩ := b_1
    refine lv_if_eq (tgt := 15) C.1.1 C.1.2.1 dX6_tempted_5 (by decide) (fun c_2 => absurd c_2 (by decide)) (fun _ => ?_)
    refine lv_iload_n C.1.1 C.1.2.1 dX6_tempted_8 rfl (lv_at hl 2 rfl) ?_
    refine a_B hS (run_S C hP hS hl.1 [.int y] (kX6_isGood l g n v y) gX6_tempted_X6_isGood hdX6_isGood rfl ⟨rfl, rfl⟩ ⟨Nat.le_of_ble_eq_true rfl, Nat.le_of_ble_eq_true rfl⟩ rfl [] rfl (Nat.le_of_ble_eq_true rfl) dX6_tempted_9 ⟨Nat.zero_le _, Nat.zero_le _⟩) (fun b_3 H locs hP hS => ?_) (fun b_3 H locs hP hS => ?_)
    · skip
      obtain ⟨jy, hjy, rfl⟩ := b_3
      refine lv_if_ne (tgt := 21) C.1.1 C.1.2.1 dX6_tempted_12 (by decide) (fun _ => ?_) (fun c_4 => absurd c_4 (by decide))
      refine lv_aload_n C.1.1 C.1.2.1 dX6_tempted_21 rfl (lv_at hl 0 rfl) ?_
      refine lv_iload_n C.1.1 C.1.2.1 dX6_tempted_22 rfl (lv_at hl 1 rfl) ?_
      refine lv_iload_n C.1.1 C.1.2.1 dX6_tempted_23 rfl (lv_at hl 2 rfl) ?_
      refine a_B hS (run_V C hP hS hl.1 53 6 (Nat.lt_of_lt_of_le (by decide) hn) rfl (by decide) rfl [.int (nI jx), .int (nI jy)] (kX6_isTempted l g n v jx (nI jy) (by omega)) gX6_tempted_X6_isTempted rfl hdX6_isTempted rfl ⟨rfl, rfl⟩ ⟨Nat.le_of_ble_eq_true rfl, Nat.le_of_ble_eq_true rfl⟩ rfl [] rfl (Nat.le_of_ble_eq_true rfl) dX6_tempted_24 ⟨Nat.zero_le _, Nat.zero_le _⟩) (fun b_5 H locs hP hS => ?_) (fun b_5 H locs hP hS => ?_)
      · skip
        refine lv_if_eq (tgt := 34) C.1.1 C.1.2.1 dX6_tempted_27 (by decide) (fun c_6 => absurd c_6 (by decide)) (fun _ => ?_)
        refine lv_iconst (v := 1) C.1.1 C.1.2.1 dX6_tempted_30 rfl ?_
        refine lv_goto (tgt := 35) C.1.1 C.1.2.1 dX6_tempted_31 (by decide) ?_
        exact t_F C rfl hP hS (by (rw [temptedM, nM_eq hM]; rw [cif_pos ⟨jx, hjx, rfl⟩]; rw [cif_pos ⟨jy, hjy, rfl⟩]; (try simp only [tn_nI (show jx < 2 ^ 31 by omega), tn_nI (show jy < 2 ^ 31 by omega)]); rw [cif_pos b_5]) <;> try simp only [fdM, upw_same, eq_self, if_true, if_false, ite_true, ite_false, ↓reduceIte, tn_nI (show jx < 2 ^ 31 by omega), tn_nI (show jy < 2 ^ 31 by omega), nM_eq hM]) (by (rw [temptedM, nM_eq hM]; rw [cif_pos ⟨jx, hjx, rfl⟩]; rw [cif_pos ⟨jy, hjy, rfl⟩]; (try simp only [tn_nI (show jx < 2 ^ 31 by omega), tn_nI (show jy < 2 ^ 31 by omega)]); rw [cif_pos b_5]) <;> try simp only [fdM, upw_same, eq_self, if_true, if_false, ite_true, ite_false, ↓reduceIte, tn_nI (show jx < 2 ^ 31 by omega), tn_nI (show jy < 2 ^ 31 by omega), nM_eq hM]) dX6_tempted_35
      · skip
        refine lv_if_eq (tgt := 34) C.1.1 C.1.2.1 dX6_tempted_27 (by decide) (fun _ => ?_) (fun c_7 => absurd c_7 (by decide))
        refine lv_iconst (v := 0) C.1.1 C.1.2.1 dX6_tempted_34 rfl ?_
        exact t_F C rfl hP hS (by (rw [temptedM, nM_eq hM]; rw [cif_pos ⟨jx, hjx, rfl⟩]; rw [cif_pos ⟨jy, hjy, rfl⟩]; (try simp only [tn_nI (show jx < 2 ^ 31 by omega), tn_nI (show jy < 2 ^ 31 by omega)]); rw [cif_neg b_5]) <;> try simp only [fdM, upw_same, eq_self, if_true, if_false, ite_true, ite_false, ↓reduceIte, tn_nI (show jx < 2 ^ 31 by omega), tn_nI (show jy < 2 ^ 31 by omega), nM_eq hM]) (by (rw [temptedM, nM_eq hM]; rw [cif_pos ⟨jx, hjx, rfl⟩]; rw [cif_pos ⟨jy, hjy, rfl⟩]; (try simp only [tn_nI (show jx < 2 ^ 31 by omega), tn_nI (show jy < 2 ^ 31 by omega)]); rw [cif_neg b_5]) <;> try simp only [fdM, upw_same, eq_self, if_true, if_false, ite_true, ite_false, ↓reduceIte, tn_nI (show jx < 2 ^ 31 by omega), tn_nI (show jy < 2 ^ 31 by omega), nM_eq hM]) dX6_tempted_35
    · skip
      refine lv_if_ne (tgt := 21) C.1.1 C.1.2.1 dX6_tempted_12 (by decide) (fun c_8 => absurd c_8 (by decide)) (fun _ => ?_)
      refine lv_aload_n C.1.1 C.1.2.1 dX6_tempted_15 rfl (lv_at hl 0 rfl) ?_
      refine lv_iconst (v := 0) C.1.1 C.1.2.1 dX6_tempted_16 rfl ?_
      refine a_F hS (run_V C hP hS hl.1 53 6 (Nat.lt_of_lt_of_le (by decide) hn) rfl (by decide) rfl [.int 0] (kX6_finds l g n v 0 (by decide)) gX6_tempted_X6_finds rfl hdX6_finds rfl ⟨rfl, rfl⟩ ⟨Nat.le_of_ble_eq_true rfl, Nat.le_of_ble_eq_true rfl⟩ rfl [] rfl (Nat.le_of_ble_eq_true rfl) dX6_tempted_17 ⟨Nat.zero_le _, Nat.zero_le _⟩) (fun H locs hP hS => ?_)
      obtain ⟨v_9, hv_9⟩ : ∃ zz, zz = fnd v 0 := ⟨_, rfl⟩
      rw [← hv_9] at hP
      exact t_F C rfl hP hS (by (rw [temptedM, nM_eq hM]; rw [cif_pos ⟨jx, hjx, rfl⟩]; (try simp only [tn_nI (show jx < 2 ^ 31 by omega)]); rw [cif_neg b_3]) <;> try simp only [fdM, upw_same, eq_self, if_true, if_false, ite_true, ite_false, ↓reduceIte, tn_nI (show jx < 2 ^ 31 by omega), hv_9, nM_eq hM]) (by (rw [temptedM, nM_eq hM]; rw [cif_pos ⟨jx, hjx, rfl⟩]; (try simp only [tn_nI (show jx < 2 ^ 31 by omega)]); rw [cif_neg b_3]) <;> try simp only [fdM, upw_same, eq_self, if_true, if_false, ite_true, ite_false, ↓reduceIte, tn_nI (show jx < 2 ^ 31 by omega), hv_9, nM_eq hM]) dX6_tempted_20
  · skip
    refine lv_if_eq (tgt := 15) C.1.1 C.1.2.1 dX6_tempted_5 (by decide) (fun _ => ?_) (fun c_10 => absurd c_10 (by decide))
    refine lv_aload_n C.1.1 C.1.2.1 dX6_tempted_15 rfl (lv_at hl 0 rfl) ?_
    refine lv_iconst (v := 0) C.1.1 C.1.2.1 dX6_tempted_16 rfl ?_
    refine a_F hS (run_V C hP hS hl.1 53 6 (Nat.lt_of_lt_of_le (by decide) hn) rfl (by decide) rfl [.int 0] (kX6_finds l g n v 0 (by decide)) gX6_tempted_X6_finds rfl hdX6_finds rfl ⟨rfl, rfl⟩ ⟨Nat.le_of_ble_eq_true rfl, Nat.le_of_ble_eq_true rfl⟩ rfl [] rfl (Nat.le_of_ble_eq_true rfl) dX6_tempted_17 ⟨Nat.zero_le _, Nat.zero_le _⟩) (fun H locs hP hS => ?_)
    obtain ⟨v_11, hv_11⟩ : ∃ zz, zz = fnd v 0 := ⟨_, rfl⟩
    rw [← hv_11] at hP
    exact t_F C rfl hP hS (by (rw [temptedM, nM_eq hM]; rw [cif_neg b_1]) <;> try simp only [fdM, upw_same, eq_self, if_true, if_false, ite_true, ite_false, ↓reduceIte, hv_11, nM_eq hM]) (by (rw [temptedM, nM_eq hM]; rw [cif_neg b_1]) <;> try simp only [fdM, upw_same, eq_self, if_true, if_false, ite_true, ite_false, ↓reduceIte, hv_11, nM_eq hM]) dX6_tempted_20

abbrev rmX6_change : Room := { frames := 2, cells := 0, slots := 0, locals := 46 }
set_option maxHeartbeats 4000000 in
set_option maxRecDepth 100000 in
theorem kX6_change (l : Launch) (g : GG) (n : Nat) (v : SV) (x y z : Int32) (N : Nat) (hM : okM (v.1 54) N) : Met l yX6_change wsX6_change rmX6_change (PW g n v [.ref (gA g 53), .int x, .int y, .int z]) (QF g n ((changeM v x y z).1) ((changeM v x y z).2)) 0 0 (wA g n) := by
  refine Met.begin RX6 rfl (by decide) rfl (Nat.le_of_ble_eq_true rfl) ?_
  intro p e s m args below meth c ls ha C hP hS hl
  have hn : 64 ≤ n := C.2.1.1.2.1
  have hi6 : ∀ w ∈ u_ws RX6 TX6 17, w ∈ wsX6_change := by decide +kernel
  have hl : lv_has ls 4 [(0, .ref (gA g 53)), (1, .int x), (2, .int y), (3, .int z)] := hl
  have h8 := hM.1
  refine lv_aload_n C.1.1 C.1.2.1 dX6_change_0 rfl (lv_at hl 0 rfl) ?_
  refine lv_iload_n C.1.1 C.1.2.1 dX6_change_1 rfl (lv_at hl 1 rfl) ?_
  refine a_B hS (run_V C hP hS hl.1 53 6 (Nat.lt_of_lt_of_le (by decide) hn) rfl (by decide) rfl [.int x] (kX6_isResident l g n v x N hM) gX6_change_X6_isResident rfl hdX6_isResident rfl ⟨rfl, rfl⟩ ⟨Nat.le_of_ble_eq_true rfl, Nat.le_of_ble_eq_true rfl⟩ rfl [] rfl (Nat.le_of_ble_eq_true rfl) dX6_change_2 ⟨Nat.zero_le _, Nat.zero_le _⟩) (fun b_1 H locs hP hS => ?_) (fun b_1 H locs hP hS => ?_)
  · skip
    obtain ⟨jx, hjx, rfl⟩ := b_1
    refine lv_if_eq (tgt := 51) C.1.1 C.1.2.1 dX6_change_5 (by decide) (fun c_2 => absurd c_2 (by decide)) (fun _ => ?_)
    refine lv_iload_n C.1.1 C.1.2.1 dX6_change_8 rfl (lv_at hl 2 rfl) ?_
    refine lv_i2l (v := y.toInt64) C.1.1 C.1.2.1 dX6_change_9 rfl ?_
    refine lv_lconst (v := 0) C.1.1 C.1.2.1 dX6_change_10 rfl ?_
    refine lv_ldc2 (v := 5) C.1.1 C.1.2.1 C.1.2.2.2.1 (C.1.2.2.2.2 _ (List.mem_of_getElem? (i := 1) rfl)) dX6_change_11 ?_
    refine a_B hS (run_S C hP hS hl.1 [.long y.toInt64, .long 0, .long 5] (kX6_in l g n v y.toInt64 0 5) gX6_change_X6_in hdX6_in rfl ⟨rfl, rfl⟩ ⟨Nat.le_of_ble_eq_true rfl, Nat.le_of_ble_eq_true rfl⟩ rfl [] rfl (Nat.le_of_ble_eq_true rfl) dX6_change_14 ⟨Nat.zero_le _, Nat.zero_le _⟩) (fun b_3 H locs hP hS => ?_) (fun b_3 H locs hP hS => ?_)
    · skip
      have b_3 := (in_iff 6 (by decide) (by decide)).mp b_3
      obtain ⟨jy, hjy, rfl⟩ := b_3
      refine lv_if_eq (tgt := 51) C.1.1 C.1.2.1 dX6_change_17 (by decide) (fun c_4 => absurd c_4 (by decide)) (fun _ => ?_)
      refine lv_iload_n C.1.1 C.1.2.1 dX6_change_20 rfl (lv_at hl 3 rfl) ?_
      refine lv_i2l (v := z.toInt64) C.1.1 C.1.2.1 dX6_change_21 rfl ?_
      refine lv_lconst (v := 0) C.1.1 C.1.2.1 dX6_change_22 rfl ?_
      refine lv_iload_n C.1.1 C.1.2.1 dX6_change_23 rfl (lv_at hl 2 rfl) ?_
      refine a_F hS (run_S C hP hS hl.1 [.int (nI jy)] (kX6_mostOf l g n v (nI jy)) gX6_change_X6_mostOf hdX6_mostOf rfl ⟨rfl, rfl⟩ ⟨Nat.le_of_ble_eq_true rfl, Nat.le_of_ble_eq_true rfl⟩ rfl [.long 0, .long z.toInt64] rfl (Nat.le_of_ble_eq_true rfl) dX6_change_24 ⟨Nat.zero_le _, Nat.zero_le _⟩) (fun H locs hP hS => ?_)
      refine lv_i2l (v := (mostF (nI jy)).toInt64) C.1.1 C.1.2.1 dX6_change_27 rfl ?_
      refine a_B hS (run_S C hP hS hl.1 [.long z.toInt64, .long 0, .long ((mostF (nI jy)).toInt64)] (kX6_in l g n v z.toInt64 0 ((mostF (nI jy)).toInt64)) gX6_change_X6_in hdX6_in rfl ⟨rfl, rfl⟩ ⟨Nat.le_of_ble_eq_true rfl, Nat.le_of_ble_eq_true rfl⟩ rfl [] rfl (Nat.le_of_ble_eq_true rfl) dX6_change_28 ⟨Nat.zero_le _, Nat.zero_le _⟩) (fun b_5 H locs hP hS => ?_) (fun b_5 H locs hP hS => ?_)
      · skip
        refine lv_if_eq (tgt := 51) C.1.1 C.1.2.1 dX6_change_31 (by decide) (fun c_6 => absurd c_6 (by decide)) (fun _ => ?_)
        refine lv_aload_n C.1.1 C.1.2.1 dX6_change_34 rfl (lv_at hl 0 rfl) ?_
        refine lv_bipush (v := 25) C.1.1 C.1.2.1 dX6_change_35 rfl ?_
        refine lv_bipush (v := 8) C.1.1 C.1.2.1 dX6_change_37 rfl ?_
        refine lv_iload_n C.1.1 C.1.2.1 dX6_change_39 rfl (lv_at hl 2 rfl) ?_
        refine lv_imul C.1.1 C.1.2.1 dX6_change_40 ?_
        refine lv_topE (nI (8 * jy)) (pk_mul 8 jy) ?_
        refine lv_iadd C.1.1 C.1.2.1 dX6_change_41 ?_
        refine lv_topE (nI (25 + (8 * jy))) (nI_add 25 (8 * jy)) ?_
        refine lv_iload_n C.1.1 C.1.2.1 dX6_change_42 rfl (lv_at hl 1 rfl) ?_
        refine lv_iadd C.1.1 C.1.2.1 dX6_change_43 ?_
        refine lv_topE (nI ((25 + (8 * jy)) + jx)) (nI_add (25 + (8 * jy)) jx) ?_
        refine lv_iload_n C.1.1 C.1.2.1 dX6_change_44 rfl (lv_at hl 3 rfl) ?_
        refine a_F hS (run_V C hP hS hl.1 53 6 (Nat.lt_of_lt_of_le (by decide) hn) rfl (by decide) rfl [.int (nI ((25 + (8 * jy)) + jx)), .int z] (kX6_becomes l g n v ((25 + (8 * jy)) + jx) z (by omega)) gX6_change_X6_becomes rfl hdX6_becomes rfl ⟨rfl, rfl⟩ ⟨Nat.le_of_ble_eq_true rfl, Nat.le_of_ble_eq_true rfl⟩ rfl [] rfl (Nat.le_of_ble_eq_true rfl) dX6_change_45 ⟨Nat.zero_le _, Nat.zero_le _⟩) (fun H locs hP hS => ?_)
        obtain ⟨v_7, hv_7⟩ : ∃ zz, zz = up v 54 ((25 + (8 * jy)) + jx) z := ⟨_, rfl⟩
        rw [← hv_7] at hP
        refine lv_goto (tgt := 56) C.1.1 C.1.2.1 dX6_change_48 (by decide) ?_
        exact t_F C rfl hP hS (by (rw [changeM, nM_eq hM]; rw [cif_pos ⟨jx, hjx, rfl⟩]; rw [cif_pos ⟨jy, hjy, rfl⟩]; (try simp only [tn_nI (show jx < 2 ^ 31 by omega), tn_nI (show jy < 2 ^ 31 by omega)]); rw [cif_pos b_5]) <;> try simp only [fdM, upw_same, eq_self, if_true, if_false, ite_true, ite_false, ↓reduceIte, tn_nI (show jx < 2 ^ 31 by omega), tn_nI (show jy < 2 ^ 31 by omega), hv_7, nM_eq hM]) (by (rw [changeM, nM_eq hM]; rw [cif_pos ⟨jx, hjx, rfl⟩]; rw [cif_pos ⟨jy, hjy, rfl⟩]; (try simp only [tn_nI (show jx < 2 ^ 31 by omega), tn_nI (show jy < 2 ^ 31 by omega)]); rw [cif_pos b_5]) <;> try simp only [fdM, upw_same, eq_self, if_true, if_false, ite_true, ite_false, ↓reduceIte, tn_nI (show jx < 2 ^ 31 by omega), tn_nI (show jy < 2 ^ 31 by omega), hv_7, nM_eq hM]) dX6_change_56
      · skip
        refine lv_if_eq (tgt := 51) C.1.1 C.1.2.1 dX6_change_31 (by decide) (fun _ => ?_) (fun c_8 => absurd c_8 (by decide))
        refine lv_aload_n C.1.1 C.1.2.1 dX6_change_51 rfl (lv_at hl 0 rfl) ?_
        refine lv_iconst (v := 0) C.1.1 C.1.2.1 dX6_change_52 rfl ?_
        refine a_F hS (run_V C hP hS hl.1 53 6 (Nat.lt_of_lt_of_le (by decide) hn) rfl (by decide) rfl [.int 0] (kX6_finds l g n v 0 (by decide)) gX6_change_X6_finds rfl hdX6_finds rfl ⟨rfl, rfl⟩ ⟨Nat.le_of_ble_eq_true rfl, Nat.le_of_ble_eq_true rfl⟩ rfl [] rfl (Nat.le_of_ble_eq_true rfl) dX6_change_53 ⟨Nat.zero_le _, Nat.zero_le _⟩) (fun H locs hP hS => ?_)
        obtain ⟨v_9, hv_9⟩ : ∃ zz, zz = fnd v 0 := ⟨_, rfl⟩
        rw [← hv_9] at hP
        exact t_F C rfl hP hS (by (rw [changeM, nM_eq hM]; rw [cif_pos ⟨jx, hjx, rfl⟩]; rw [cif_pos ⟨jy, hjy, rfl⟩]; (try simp only [tn_nI (show jx < 2 ^ 31 by omega), tn_nI (show jy < 2 ^ 31 by omega)]); rw [cif_neg b_5]) <;> try simp only [fdM, upw_same, eq_self, if_true, if_false, ite_true, ite_false, ↓reduceIte, tn_nI (show jx < 2 ^ 31 by omega), tn_nI (show jy < 2 ^ 31 by omega), hv_9, nM_eq hM]) (by (rw [changeM, nM_eq hM]; rw [cif_pos ⟨jx, hjx, rfl⟩]; rw [cif_pos ⟨jy, hjy, rfl⟩]; (try simp only [tn_nI (show jx < 2 ^ 31 by omega), tn_nI (show jy < 2 ^ 31 by omega)]); rw [cif_neg b_5]) <;> try simp only [fdM, upw_same, eq_self, if_true, if_false, ite_true, ite_false, ↓reduceIte, tn_nI (show jx < 2 ^ 31 by omega), tn_nI (show jy < 2 ^ 31 by omega), hv_9, nM_eq hM]) dX6_change_56
    · skip
      have b_3 := fun h => b_3 ((in_iff 6 (by decide) (by decide)).mpr h)
      refine lv_if_eq (tgt := 51) C.1.1 C.1.2.1 dX6_change_17 (by decide) (fun _ => ?_) (fun c_10 => absurd c_10 (by decide))
      refine lv_aload_n C.1.1 C.1.2.1 dX6_change_51 rfl (lv_at hl 0 rfl) ?_
      refine lv_iconst (v := 0) C.1.1 C.1.2.1 dX6_change_52 rfl ?_
      refine a_F hS (run_V C hP hS hl.1 53 6 (Nat.lt_of_lt_of_le (by decide) hn) rfl (by decide) rfl [.int 0] (kX6_finds l g n v 0 (by decide)) gX6_change_X6_finds rfl hdX6_finds rfl ⟨rfl, rfl⟩ ⟨Nat.le_of_ble_eq_true rfl, Nat.le_of_ble_eq_true rfl⟩ rfl [] rfl (Nat.le_of_ble_eq_true rfl) dX6_change_53 ⟨Nat.zero_le _, Nat.zero_le _⟩) (fun H locs hP hS => ?_)
      obtain ⟨v_11, hv_11⟩ : ∃ zz, zz = fnd v 0 := ⟨_, rfl⟩
      rw [← hv_11] at hP
      exact t_F C rfl hP hS (by (rw [changeM, nM_eq hM]; rw [cif_pos ⟨jx, hjx, rfl⟩]; (try simp only [tn_nI (show jx < 2 ^ 31 by omega)]); rw [cif_neg b_3]) <;> try simp only [fdM, upw_same, eq_self, if_true, if_false, ite_true, ite_false, ↓reduceIte, tn_nI (show jx < 2 ^ 31 by omega), hv_11, nM_eq hM]) (by (rw [changeM, nM_eq hM]; rw [cif_pos ⟨jx, hjx, rfl⟩]; (try simp only [tn_nI (show jx < 2 ^ 31 by omega)]); rw [cif_neg b_3]) <;> try simp only [fdM, upw_same, eq_self, if_true, if_false, ite_true, ite_false, ↓reduceIte, tn_nI (show jx < 2 ^ 31 by omega), hv_11, nM_eq hM]) dX6_change_56
  · skip
    refine lv_if_eq (tgt := 51) C.1.1 C.1.2.1 dX6_change_5 (by decide) (fun _ => ?_) (fun c_12 => absurd c_12 (by decide))
    refine lv_aload_n C.1.1 C.1.2.1 dX6_change_51 rfl (lv_at hl 0 rfl) ?_
    refine lv_iconst (v := 0) C.1.1 C.1.2.1 dX6_change_52 rfl ?_
    refine a_F hS (run_V C hP hS hl.1 53 6 (Nat.lt_of_lt_of_le (by decide) hn) rfl (by decide) rfl [.int 0] (kX6_finds l g n v 0 (by decide)) gX6_change_X6_finds rfl hdX6_finds rfl ⟨rfl, rfl⟩ ⟨Nat.le_of_ble_eq_true rfl, Nat.le_of_ble_eq_true rfl⟩ rfl [] rfl (Nat.le_of_ble_eq_true rfl) dX6_change_53 ⟨Nat.zero_le _, Nat.zero_le _⟩) (fun H locs hP hS => ?_)
    obtain ⟨v_13, hv_13⟩ : ∃ zz, zz = fnd v 0 := ⟨_, rfl⟩
    rw [← hv_13] at hP
    exact t_F C rfl hP hS (by (rw [changeM, nM_eq hM]; rw [cif_neg b_1]) <;> try simp only [fdM, upw_same, eq_self, if_true, if_false, ite_true, ite_false, ↓reduceIte, hv_13, nM_eq hM]) (by (rw [changeM, nM_eq hM]; rw [cif_neg b_1]) <;> try simp only [fdM, upw_same, eq_self, if_true, if_false, ite_true, ite_false, ↓reduceIte, hv_13, nM_eq hM]) dX6_change_56

abbrev rmX6_comers : Room := { frames := 3, cells := 0, slots := 0, locals := 67 }
set_option maxHeartbeats 4000000 in
set_option maxRecDepth 100000 in
theorem kX6_comers (l : Launch) (g : GG) (n : Nat) (v : SV) (x : Int32) (N : Nat) (hM : okM (v.1 54) N) : Met l yX6_comers wsX6_comers rmX6_comers (PW g n v [.ref (gA g 53), .int x]) (QF g n ((comersM v x).1) ((comersM v x).2)) 0 0 (wA g n) := by
  refine Met.begin RX6 rfl (by decide) rfl (Nat.le_of_ble_eq_true rfl) ?_
  intro p e s m args below meth c ls ha C hP hS hl
  have hn : 64 ≤ n := C.2.1.1.2.1
  have hi6 : ∀ w ∈ u_ws RX6 TX6 17, w ∈ wsX6_comers := by decide +kernel
  have hl : lv_has ls 4 [(0, .ref (gA g 53)), (1, .int x)] := hl
  have h8 := hM.1
  refine lv_iload_n C.1.1 C.1.2.1 dX6_comers_0 rfl (lv_at hl 1 rfl) ?_
  refine a_B hS (run_S C hP hS hl.1 [.int x] (kX6_isGood l g n v x) gX6_comers_X6_isGood hdX6_isGood rfl ⟨rfl, rfl⟩ ⟨Nat.le_of_ble_eq_true rfl, Nat.le_of_ble_eq_true rfl⟩ rfl [] rfl (Nat.le_of_ble_eq_true rfl) dX6_comers_1 ⟨Nat.zero_le _, Nat.zero_le _⟩) (fun b_1 H locs hP hS => ?_) (fun b_1 H locs hP hS => ?_)
  · skip
    obtain ⟨jx, hjx, rfl⟩ := b_1
    refine lv_if_ne (tgt := 13) C.1.1 C.1.2.1 dX6_comers_4 (by decide) (fun _ => ?_) (fun c_2 => absurd c_2 (by decide))
    refine lv_iconst (v := 0) C.1.1 C.1.2.1 dX6_comers_13 rfl ?_
    refine lv_istore_n (lv' := [(2, .int 0), (0, .ref (gA g 53)), (1, .int (nI jx))]) C.1.1 C.1.2.1 dX6_comers_14 rfl hl (by decide) rfl (fun ls hl => ?_)
    refine lv_iconst (v := 0) C.1.1 C.1.2.1 dX6_comers_15 rfl ?_
    refine lv_istore_n (lv' := [(3, .int 0), (2, .int 0), (0, .ref (gA g 53)), (1, .int (nI jx))]) C.1.1 C.1.2.1 dX6_comers_16 rfl hl (by decide) rfl (fun ls hl => ?_)
    have lp_17 : ∀ (k_17 i : Nat), i ≤ N → N + 1 ≤ i + k_17 → ∀ (H : Heap) (locs : List Loc) (ls : Array Slot), va_P g.1 vwCl (wl g n v) H → va_S (wA g n) s.heap H locs → lv_has ls 4 [(0, .ref (gA g 53)), (1, .int (nI jx)), (2, .int (comeM (v.1 54) (nI jx) i)), (3, .int (nI i))] → W p l e rmX6_comers s m args below meth c H locs 0 0 (MQ below (QF g n ((comersM v (nI jx)).1) ((comersM v (nI jx)).2)) args s 0 0 (wA g n)) (F0 m 17 ls []) := by
      clear hP hS hl
      intro k_17
      induction k_17 with
      | zero => exact fun i h1 h2 => absurd h2 (by omega)
      | succ k_17 ih_17 =>
        intro i hi_17 hk_17 H locs ls hP hS hl
        refine lv_iload_n C.1.1 C.1.2.1 dX6_comers_17 rfl (lv_at hl 3 rfl) ?_
        refine lv_aload_n C.1.1 C.1.2.1 dX6_comers_18 rfl (lv_at hl 0 rfl) ?_
        refine r_get C hP 53 6 (Nat.lt_of_lt_of_le (by decide) hn) rfl (by decide) rfl hi6 0 (by decide) (List.mem_of_getElem? (i := 1) rfl) rfl (val := .ref (gA g 54)) rfl dX6_comers_19 ?_
        refine lv_iconst (v := 0) C.1.1 C.1.2.1 dX6_comers_22 rfl ?_
        refine r_iald C hP 54 (Nat.lt_of_lt_of_le (by decide) hn) rfl 0 rfl (N := 83) rfl (by decide) (by omega) dX6_comers_23 ?_
        refine lv_topE (nI N) hM.2.1 ?_
        refine lv_icmp_ge (tgt := 52) C.1.1 C.1.2.1 dX6_comers_24 (by decide) (fun c_3 => ?_) (fun c_3 => ?_)
        · rw [show (nI N ≤ nI i) = (N ≤ i) from propext (nI_leI (a := N) (b := i) (by omega) (by omega))] at c_3
          have hiN : i = N := by omega
          refine lv_iload_n C.1.1 C.1.2.1 dX6_comers_52 rfl (lv_at hl 2 rfl) ?_
          exact t_F C rfl hP hS (by rw [comersM, nM_eq hM, cif_pos ⟨jx, hjx, rfl⟩, hiN]) (by (rw [comersM, nM_eq hM]; rw [cif_pos ⟨jx, hjx, rfl⟩]) <;> try simp only [fdM, upw_same, eq_self, if_true, if_false, ite_true, ite_false, ↓reduceIte, c_3, tn_nI (show jx < 2 ^ 31 by omega), nM_eq hM]) dX6_comers_53
        · rw [show (nI N ≤ nI i) = (N ≤ i) from propext (nI_leI (a := N) (b := i) (by omega) (by omega))] at c_3
          refine lv_iload_n C.1.1 C.1.2.1 dX6_comers_27 rfl (lv_at hl 2 rfl) ?_
          refine lv_aload_n C.1.1 C.1.2.1 dX6_comers_28 rfl (lv_at hl 0 rfl) ?_
          refine lv_iload_n C.1.1 C.1.2.1 dX6_comers_29 rfl (lv_at hl 3 rfl) ?_
          refine lv_iload_n C.1.1 C.1.2.1 dX6_comers_30 rfl (lv_at hl 1 rfl) ?_
          have jn_4 : ∀ (H : Heap) (locs : List Loc) (ls : Array Slot), va_P g.1 vwCl (wl g n v) H → va_S (wA g n) s.heap H locs → lv_has ls 4 [(0, .ref (gA g 53)), (1, .int (nI jx)), (2, .int (comeM (v.1 54) (nI jx) i)), (3, .int (nI i))] → W p l e rmX6_comers s m args below meth c H locs 0 0 (MQ below (QF g n ((comersM v (nI jx)).1) ((comersM v (nI jx)).2)) args s 0 0 (wA g n)) (F0 m 44 ls [.int (cif (comingM (v.1 54) i (nI jx)) (1 <<< (nI i &&& 31)) 0), .int (comeM (v.1 54) (nI jx) i)]) := by
            clear hP hS hl
            intro H locs ls hP hS hl
            refine lv_ior C.1.1 C.1.2.1 dX6_comers_44 ?_
            refine lv_istore_n (lv' := [(2, .int ((comeM (v.1 54) (nI jx) i) ||| (cif (comingM (v.1 54) i (nI jx)) (1 <<< (nI i &&& 31)) 0))), (0, .ref (gA g 53)), (1, .int (nI jx)), (3, .int (nI i))]) C.1.1 C.1.2.1 dX6_comers_45 rfl hl (by decide) rfl (fun ls hl => ?_)
            refine lv_iinc (v := nI (i + 1)) (lv' := [(3, .int (nI (i + 1))), (2, .int ((comeM (v.1 54) (nI jx) i) ||| (cif (comingM (v.1 54) i (nI jx)) (1 <<< (nI i &&& 31)) 0))), (0, .ref (gA g 53)), (1, .int (nI jx))]) C.1.1 C.1.2.1 dX6_comers_46 hl (k := 3) rfl (nI_1 i) (by decide) rfl (fun ls hl => ?_)
            refine lv_goto (tgt := 17) C.1.1 C.1.2.1 dX6_comers_49 (by decide) ?_
            exact ih_17 (i + 1) (by omega) (by omega) _ _ _ hP hS (lv_sub hl [2, 3, 1, 0] rfl)
          refine a_B hS (run_V C hP hS hl.1 53 6 (Nat.lt_of_lt_of_le (by decide) hn) rfl (by decide) rfl [.int (nI i), .int (nI jx)] (kX6_isComing l g n v i (nI jx) (by omega)) gX6_comers_X6_isComing rfl hdX6_isComing rfl ⟨rfl, rfl⟩ ⟨Nat.le_of_ble_eq_true rfl, Nat.le_of_ble_eq_true rfl⟩ rfl [.int (comeM (v.1 54) (nI jx) i)] rfl (Nat.le_of_ble_eq_true rfl) dX6_comers_31 ⟨Nat.zero_le _, Nat.zero_le _⟩) (fun b_5 H locs hP hS => ?_) (fun b_5 H locs hP hS => ?_)
          · skip
            refine lv_if_eq (tgt := 43) C.1.1 C.1.2.1 dX6_comers_34 (by decide) (fun c_6 => absurd c_6 (by decide)) (fun _ => ?_)
            refine lv_iconst (v := 1) C.1.1 C.1.2.1 dX6_comers_37 rfl ?_
            refine lv_iload_n C.1.1 C.1.2.1 dX6_comers_38 rfl (lv_at hl 3 rfl) ?_
            refine lv_ishl C.1.1 C.1.2.1 dX6_comers_39 ?_
            refine lv_goto (tgt := 44) C.1.1 C.1.2.1 dX6_comers_40 (by decide) ?_
            exact lv_topE (cif (comingM (v.1 54) i (nI jx)) (1 <<< (nI i &&& 31)) 0) (by rw [cif_pos b_5]) (jn_4 _ _ _ hP hS (lv_sub hl [0, 1, 2, 3] rfl))
          · skip
            refine lv_if_eq (tgt := 43) C.1.1 C.1.2.1 dX6_comers_34 (by decide) (fun _ => ?_) (fun c_7 => absurd c_7 (by decide))
            refine lv_iconst (v := 0) C.1.1 C.1.2.1 dX6_comers_43 rfl ?_
            exact lv_topE (cif (comingM (v.1 54) i (nI jx)) (1 <<< (nI i &&& 31)) 0) (by rw [cif_neg b_5]) (jn_4 _ _ _ hP hS (lv_sub hl [0, 1, 2, 3] rfl))
    exact lp_17 (N + 1) 0 (Nat.zero_le _) (by omega) _ _ _ hP hS (lv_sub hl [2, 3, 1, 0] rfl)
  · skip
    refine lv_if_ne (tgt := 13) C.1.1 C.1.2.1 dX6_comers_4 (by decide) (fun c_8 => absurd c_8 (by decide)) (fun _ => ?_)
    refine lv_aload_n C.1.1 C.1.2.1 dX6_comers_7 rfl (lv_at hl 0 rfl) ?_
    refine lv_iconst (v := 0) C.1.1 C.1.2.1 dX6_comers_8 rfl ?_
    refine a_F hS (run_V C hP hS hl.1 53 6 (Nat.lt_of_lt_of_le (by decide) hn) rfl (by decide) rfl [.int 0] (kX6_finds l g n v 0 (by decide)) gX6_comers_X6_finds rfl hdX6_finds rfl ⟨rfl, rfl⟩ ⟨Nat.le_of_ble_eq_true rfl, Nat.le_of_ble_eq_true rfl⟩ rfl [] rfl (Nat.le_of_ble_eq_true rfl) dX6_comers_9 ⟨Nat.zero_le _, Nat.zero_le _⟩) (fun H locs hP hS => ?_)
    obtain ⟨v_9, hv_9⟩ : ∃ zz, zz = fnd v 0 := ⟨_, rfl⟩
    rw [← hv_9] at hP
    exact t_F C rfl hP hS (by (rw [comersM, nM_eq hM]; rw [cif_neg b_1]) <;> try simp only [fdM, upw_same, eq_self, if_true, if_false, ite_true, ite_false, ↓reduceIte, hv_9, nM_eq hM]) (by (rw [comersM, nM_eq hM]; rw [cif_neg b_1]) <;> try simp only [fdM, upw_same, eq_self, if_true, if_false, ite_true, ite_false, ↓reduceIte, hv_9, nM_eq hM]) dX6_comers_12

abbrev rmX6_go : Room := { frames := 5, cells := 0, slots := 0, locals := 112 }
set_option maxHeartbeats 4000000 in
set_option maxRecDepth 100000 in
theorem kX6_go (l : Launch) (g : GG) (n : Nat) (v : SV) (x : Int32) (N : Nat) (hM : okM (v.1 54) N) : Met l yX6_go wsX6_go rmX6_go (PW g n v [.ref (gA g 53), .int x]) (QF g n ((goM v x).1) ((goM v x).2)) 0 0 (wA g n) := by
  refine Met.begin RX6 rfl (by decide) rfl (Nat.le_of_ble_eq_true rfl) ?_
  intro p e s m args below meth c ls ha C hP hS hl
  have hn : 64 ≤ n := C.2.1.1.2.1
  have hi6 : ∀ w ∈ u_ws RX6 TX6 17, w ∈ wsX6_go := by decide +kernel
  have hl : lv_has ls 2 [(0, .ref (gA g 53)), (1, .int x)] := hl
  have h8 := hM.1
  obtain ⟨D, hD, eD⟩ := hM.2.2.1
  refine lv_iload_n C.1.1 C.1.2.1 dX6_go_0 rfl (lv_at hl 1 rfl) ?_
  refine lv_i2l (v := x.toInt64) C.1.1 C.1.2.1 dX6_go_1 rfl ?_
  refine lv_lconst (v := 1) C.1.1 C.1.2.1 dX6_go_2 rfl ?_
  refine lv_ldc2 (v := 60) C.1.1 C.1.2.1 C.1.2.2.2.1 (C.1.2.2.2.2 _ (List.mem_of_getElem? (i := 1) rfl)) dX6_go_3 ?_
  refine a_B hS (run_S C hP hS hl.1 [.long x.toInt64, .long 1, .long 60] (kX6_in l g n v x.toInt64 1 60) gX6_go_X6_in hdX6_in rfl ⟨rfl, rfl⟩ ⟨Nat.le_of_ble_eq_true rfl, Nat.le_of_ble_eq_true rfl⟩ rfl [] rfl (Nat.le_of_ble_eq_true rfl) dX6_go_6 ⟨Nat.zero_le _, Nat.zero_le _⟩) (fun b_1 H locs hP hS => ?_) (fun b_1 H locs hP hS => ?_)
  · skip
    have b_1 := (in_iff2 1 61 (by decide) (by decide) (by decide)).mp b_1
    obtain ⟨jx, hljx, hjx, rfl⟩ := b_1
    refine lv_if_ne (tgt := 18) C.1.1 C.1.2.1 dX6_go_9 (by decide) (fun _ => ?_) (fun c_2 => absurd c_2 (by decide))
    refine lv_aload_n C.1.1 C.1.2.1 dX6_go_18 rfl (lv_at hl 0 rfl) ?_
    refine r_get C hP 53 6 (Nat.lt_of_lt_of_le (by decide) hn) rfl (by decide) rfl hi6 0 (by decide) (List.mem_of_getElem? (i := 2) rfl) rfl (val := .ref (gA g 54)) rfl dX6_go_19 ?_
    refine lv_iconst (v := 1) C.1.1 C.1.2.1 dX6_go_22 rfl ?_
    refine r_iald C hP 54 (Nat.lt_of_lt_of_le (by decide) hn) rfl 1 rfl (N := 83) rfl (by decide) (by omega) dX6_go_23 ?_
    refine lv_topE (nI D) eD ?_
    refine lv_iload_n C.1.1 C.1.2.1 dX6_go_24 rfl (lv_at hl 1 rfl) ?_
    refine lv_iadd C.1.1 C.1.2.1 dX6_go_25 ?_
    refine lv_topE (nI (D + jx)) (nI_add D jx) ?_
    refine lv_ldc (v := 99999) C.1.1 C.1.2.1 C.1.2.2.2.1 (C.1.2.2.2.2 _ (List.mem_of_getElem? (i := 3) rfl)) dX6_go_26 ?_
    refine lv_icmp_le (tgt := 37) C.1.1 C.1.2.1 dX6_go_28 (by decide) (fun c_3 => ?_) (fun c_3 => ?_)
    · rw [show (nI (D + jx) ≤ 99999) = (D + jx ≤ 99999) from propext (nI_leI (a := D + jx) (b := 99999) (by omega) (by omega))] at c_3
      refine lv_aload_n C.1.1 C.1.2.1 dX6_go_37 rfl (lv_at hl 0 rfl) ?_
      refine lv_iload_n C.1.1 C.1.2.1 dX6_go_38 rfl (lv_at hl 1 rfl) ?_
      refine a_G hS (run_V C hP hS hl.1 53 6 (Nat.lt_of_lt_of_le (by decide) hn) rfl (by decide) rfl [.int (nI jx)] (kX6_daysGo l g n v jx N (by omega) hM) gX6_go_X6_daysGo rfl hdX6_daysGo rfl ⟨rfl, rfl⟩ ⟨Nat.le_of_ble_eq_true rfl, Nat.le_of_ble_eq_true rfl⟩ rfl [] rfl (Nat.le_of_ble_eq_true rfl) dX6_go_39 ⟨Nat.zero_le _, Nat.zero_le _⟩) (fun H locs hP hS => ?_)
      obtain ⟨v_4, hv_4⟩ : ∃ zz, zz = upw v 54 (daysM (v.1 54) jx) := ⟨_, rfl⟩
      rw [← hv_4] at hP
      refine lv_aload_n C.1.1 C.1.2.1 dX6_go_42 rfl (lv_at hl 0 rfl) ?_
      refine r_get C hP 53 6 (Nat.lt_of_lt_of_le (by decide) hn) rfl (by decide) rfl hi6 0 (by decide) (List.mem_of_getElem? (i := 2) rfl) rfl (val := .ref (gA g 54)) rfl dX6_go_43 ?_
      refine lv_bipush (v := 6) C.1.1 C.1.2.1 dX6_go_46 rfl ?_
      refine r_iald C hP 54 (Nat.lt_of_lt_of_le (by decide) hn) rfl 6 rfl (N := 83) rfl (by decide) (by omega) dX6_go_48 ?_
      exact t_F C rfl hP hS (by (rw [goM]; rw [cif_pos ⟨jx, hljx, hjx, rfl⟩]) <;> try simp only [fdM, upw_same, eq_self, if_true, if_false, ite_true, ite_false, ↓reduceIte, c_3, tn_nI (show jx < 2 ^ 31 by omega), hv_4, eD, tn_nI (show D < 2 ^ 31 by omega)]) (by (rw [goM]; rw [cif_pos ⟨jx, hljx, hjx, rfl⟩]) <;> try simp only [fdM, upw_same, eq_self, if_true, if_false, ite_true, ite_false, ↓reduceIte, c_3, tn_nI (show jx < 2 ^ 31 by omega), hv_4, eD, tn_nI (show D < 2 ^ 31 by omega)]) dX6_go_49
    · rw [show (nI (D + jx) ≤ 99999) = (D + jx ≤ 99999) from propext (nI_leI (a := D + jx) (b := 99999) (by omega) (by omega))] at c_3
      refine lv_aload_n C.1.1 C.1.2.1 dX6_go_31 rfl (lv_at hl 0 rfl) ?_
      refine lv_iconst (v := 4) C.1.1 C.1.2.1 dX6_go_32 rfl ?_
      refine a_F hS (run_V C hP hS hl.1 53 6 (Nat.lt_of_lt_of_le (by decide) hn) rfl (by decide) rfl [.int 4] (kX6_finds l g n v 4 (by decide)) gX6_go_X6_finds rfl hdX6_finds rfl ⟨rfl, rfl⟩ ⟨Nat.le_of_ble_eq_true rfl, Nat.le_of_ble_eq_true rfl⟩ rfl [] rfl (Nat.le_of_ble_eq_true rfl) dX6_go_33 ⟨Nat.zero_le _, Nat.zero_le _⟩) (fun H locs hP hS => ?_)
      obtain ⟨v_5, hv_5⟩ : ∃ zz, zz = fnd v 4 := ⟨_, rfl⟩
      rw [← hv_5] at hP
      exact t_F C rfl hP hS (by (rw [goM]; rw [cif_pos ⟨jx, hljx, hjx, rfl⟩]) <;> try simp only [fdM, upw_same, eq_self, if_true, if_false, ite_true, ite_false, ↓reduceIte, c_3, tn_nI (show jx < 2 ^ 31 by omega), hv_5, eD, tn_nI (show D < 2 ^ 31 by omega)]) (by (rw [goM]; rw [cif_pos ⟨jx, hljx, hjx, rfl⟩]) <;> try simp only [fdM, upw_same, eq_self, if_true, if_false, ite_true, ite_false, ↓reduceIte, c_3, tn_nI (show jx < 2 ^ 31 by omega), hv_5, eD, tn_nI (show D < 2 ^ 31 by omega)]) dX6_go_36
  · skip
    have b_1 := fun h => b_1 ((in_iff2 1 61 (by decide) (by decide) (by decide)).mpr h)
    refine lv_if_ne (tgt := 18) C.1.1 C.1.2.1 dX6_go_9 (by decide) (fun c_6 => absurd c_6 (by decide)) (fun _ => ?_)
    refine lv_aload_n C.1.1 C.1.2.1 dX6_go_12 rfl (lv_at hl 0 rfl) ?_
    refine lv_iconst (v := 0) C.1.1 C.1.2.1 dX6_go_13 rfl ?_
    refine a_F hS (run_V C hP hS hl.1 53 6 (Nat.lt_of_lt_of_le (by decide) hn) rfl (by decide) rfl [.int 0] (kX6_finds l g n v 0 (by decide)) gX6_go_X6_finds rfl hdX6_finds rfl ⟨rfl, rfl⟩ ⟨Nat.le_of_ble_eq_true rfl, Nat.le_of_ble_eq_true rfl⟩ rfl [] rfl (Nat.le_of_ble_eq_true rfl) dX6_go_14 ⟨Nat.zero_le _, Nat.zero_le _⟩) (fun H locs hP hS => ?_)
    obtain ⟨v_7, hv_7⟩ : ∃ zz, zz = fnd v 0 := ⟨_, rfl⟩
    rw [← hv_7] at hP
    exact t_F C rfl hP hS (by (rw [goM]; rw [cif_neg b_1]) <;> try simp only [fdM, upw_same, eq_self, if_true, if_false, ite_true, ite_false, ↓reduceIte, hv_7, eD, tn_nI (show D < 2 ^ 31 by omega)]) (by (rw [goM]; rw [cif_neg b_1]) <;> try simp only [fdM, upw_same, eq_self, if_true, if_false, ite_true, ite_false, ↓reduceIte, hv_7, eD, tn_nI (show D < 2 ^ 31 by omega)]) dX6_go_17

abbrev rmX6_now : Room := { frames := 2, cells := 0, slots := 0, locals := 45 }
set_option maxHeartbeats 4000000 in
set_option maxRecDepth 100000 in
theorem kX6_now (l : Launch) (g : GG) (n : Nat) (v : SV) (x : Int32) (N : Nat) (hM : okM (v.1 54) N) : Met l yX6_now wsX6_now rmX6_now (PW g n v [.ref (gA g 53), .int x]) (QF g n ((nowM v x).1) ((nowM v x).2)) 0 0 (wA g n) := by
  refine Met.begin RX6 rfl (by decide) rfl (Nat.le_of_ble_eq_true rfl) ?_
  intro p e s m args below meth c ls ha C hP hS hl
  have hn : 64 ≤ n := C.2.1.1.2.1
  have hi6 : ∀ w ∈ u_ws RX6 TX6 17, w ∈ wsX6_now := by decide +kernel
  have hl : lv_has ls 2 [(0, .ref (gA g 53)), (1, .int x)] := hl
  have h8 := hM.1
  refine lv_iload_n C.1.1 C.1.2.1 dX6_now_0 rfl (lv_at hl 1 rfl) ?_
  by_cases c_1 : x = 0
  · refine lv_topE 0 c_1 ?_
    refine lv_tableIn (off := 47) (tgt := 48) C.1.1 C.1.2.1 dX6_now_1 (by decide) (by decide) rfl (by decide) ?_
    refine lv_aload_n C.1.1 C.1.2.1 dX6_now_48 rfl (lv_at hl 0 rfl) ?_
    refine r_get C hP 53 6 (Nat.lt_of_lt_of_le (by decide) hn) rfl (by decide) rfl hi6 0 (by decide) (List.mem_of_getElem? (i := 1) rfl) rfl (val := .ref (gA g 54)) rfl dX6_now_49 ?_
    refine lv_iconst (v := 1) C.1.1 C.1.2.1 dX6_now_52 rfl ?_
    refine r_iald C hP 54 (Nat.lt_of_lt_of_le (by decide) hn) rfl 1 rfl (N := 83) rfl (by decide) (by omega) dX6_now_53 ?_
    exact t_F C rfl hP hS (by (rw [nowM, nM_eq hM]; rw [if_pos c_1]) <;> try simp only [fdM, upw_same, eq_self, if_true, if_false, ite_true, ite_false, ↓reduceIte, nM_eq hM, regM_1, regM_0]) (by (rw [nowM, nM_eq hM]; rw [if_pos c_1]) <;> try simp only [fdM, upw_same, eq_self, if_true, if_false, ite_true, ite_false, ↓reduceIte, nM_eq hM, regM_1, regM_0]) dX6_now_54
  by_cases c_2 : x = 1
  · refine lv_topE 1 c_2 ?_
    refine lv_tableIn (off := 54) (tgt := 55) C.1.1 C.1.2.1 dX6_now_1 (by decide) (by decide) rfl (by decide) ?_
    refine lv_aload_n C.1.1 C.1.2.1 dX6_now_55 rfl (lv_at hl 0 rfl) ?_
    refine r_get C hP 53 6 (Nat.lt_of_lt_of_le (by decide) hn) rfl (by decide) rfl hi6 0 (by decide) (List.mem_of_getElem? (i := 1) rfl) rfl (val := .ref (gA g 54)) rfl dX6_now_56 ?_
    refine lv_bipush (v := 6) C.1.1 C.1.2.1 dX6_now_59 rfl ?_
    refine r_iald C hP 54 (Nat.lt_of_lt_of_le (by decide) hn) rfl 6 rfl (N := 83) rfl (by decide) (by omega) dX6_now_61 ?_
    exact t_F C rfl hP hS (by (rw [nowM, nM_eq hM]; rw [if_neg c_1, if_pos c_2]) <;> try simp only [fdM, upw_same, eq_self, if_true, if_false, ite_true, ite_false, ↓reduceIte, nM_eq hM, regM_1, regM_0]) (by (rw [nowM, nM_eq hM]; rw [if_neg c_1, if_pos c_2]) <;> try simp only [fdM, upw_same, eq_self, if_true, if_false, ite_true, ite_false, ↓reduceIte, nM_eq hM, regM_1, regM_0]) dX6_now_62
  by_cases c_3 : x = 2
  · refine lv_topE 2 c_3 ?_
    refine lv_tableIn (off := 62) (tgt := 63) C.1.1 C.1.2.1 dX6_now_1 (by decide) (by decide) rfl (by decide) ?_
    refine lv_aload_n C.1.1 C.1.2.1 dX6_now_63 rfl (lv_at hl 0 rfl) ?_
    refine a_F hS (run_V C hP hS hl.1 53 6 (Nat.lt_of_lt_of_le (by decide) hn) rfl (by decide) rfl [] (kX6_wanted l g n v N hM) gX6_now_X6_wanted rfl hdX6_wanted rfl ⟨rfl, rfl⟩ ⟨Nat.le_of_ble_eq_true rfl, Nat.le_of_ble_eq_true rfl⟩ rfl [] rfl (Nat.le_of_ble_eq_true rfl) dX6_now_64 ⟨Nat.zero_le _, Nat.zero_le _⟩) (fun H locs hP hS => ?_)
    exact t_F C rfl hP hS (by (rw [nowM, nM_eq hM]; rw [if_neg c_1, if_neg c_2, if_pos c_3]) <;> try simp only [fdM, upw_same, eq_self, if_true, if_false, ite_true, ite_false, ↓reduceIte, nM_eq hM, regM_1, regM_0]) (by (rw [nowM, nM_eq hM]; rw [if_neg c_1, if_neg c_2, if_pos c_3]) <;> try simp only [fdM, upw_same, eq_self, if_true, if_false, ite_true, ite_false, ↓reduceIte, nM_eq hM, regM_1, regM_0]) dX6_now_67
  by_cases c_4 : x = 3
  · refine lv_topE 3 c_4 ?_
    refine lv_tableIn (off := 67) (tgt := 68) C.1.1 C.1.2.1 dX6_now_1 (by decide) (by decide) rfl (by decide) ?_
    refine lv_aload_n C.1.1 C.1.2.1 dX6_now_68 rfl (lv_at hl 0 rfl) ?_
    refine lv_iconst (v := 3) C.1.1 C.1.2.1 dX6_now_69 rfl ?_
    refine a_F hS (run_V C hP hS hl.1 53 6 (Nat.lt_of_lt_of_le (by decide) hn) rfl (by decide) rfl [.int 3] (kX6_sumOf l g n v 3 (by omega) N hM) gX6_now_X6_sumOf rfl hdX6_sumOf rfl ⟨rfl, rfl⟩ ⟨Nat.le_of_ble_eq_true rfl, Nat.le_of_ble_eq_true rfl⟩ rfl [] rfl (Nat.le_of_ble_eq_true rfl) dX6_now_70 ⟨Nat.zero_le _, Nat.zero_le _⟩) (fun H locs hP hS => ?_)
    exact t_F C rfl hP hS (by (rw [nowM, nM_eq hM]; rw [if_neg c_1, if_neg c_2, if_neg c_3, if_pos c_4]) <;> try simp only [fdM, upw_same, eq_self, if_true, if_false, ite_true, ite_false, ↓reduceIte, nM_eq hM, regM_1, regM_0]) (by (rw [nowM, nM_eq hM]; rw [if_neg c_1, if_neg c_2, if_neg c_3, if_pos c_4]) <;> try simp only [fdM, upw_same, eq_self, if_true, if_false, ite_true, ite_false, ↓reduceIte, nM_eq hM, regM_1, regM_0]) dX6_now_73
  by_cases c_5 : x = 4
  · refine lv_topE 4 c_5 ?_
    refine lv_tableIn (off := 73) (tgt := 74) C.1.1 C.1.2.1 dX6_now_1 (by decide) (by decide) rfl (by decide) ?_
    refine lv_aload_n C.1.1 C.1.2.1 dX6_now_74 rfl (lv_at hl 0 rfl) ?_
    refine lv_iconst (v := 4) C.1.1 C.1.2.1 dX6_now_75 rfl ?_
    refine a_F hS (run_V C hP hS hl.1 53 6 (Nat.lt_of_lt_of_le (by decide) hn) rfl (by decide) rfl [.int 4] (kX6_sumOf l g n v 4 (by omega) N hM) gX6_now_X6_sumOf rfl hdX6_sumOf rfl ⟨rfl, rfl⟩ ⟨Nat.le_of_ble_eq_true rfl, Nat.le_of_ble_eq_true rfl⟩ rfl [] rfl (Nat.le_of_ble_eq_true rfl) dX6_now_76 ⟨Nat.zero_le _, Nat.zero_le _⟩) (fun H locs hP hS => ?_)
    exact t_F C rfl hP hS (by (rw [nowM, nM_eq hM]; rw [if_neg c_1, if_neg c_2, if_neg c_3, if_neg c_4, if_pos c_5]) <;> try simp only [fdM, upw_same, eq_self, if_true, if_false, ite_true, ite_false, ↓reduceIte, nM_eq hM, regM_1, regM_0]) (by (rw [nowM, nM_eq hM]; rw [if_neg c_1, if_neg c_2, if_neg c_3, if_neg c_4, if_pos c_5]) <;> try simp only [fdM, upw_same, eq_self, if_true, if_false, ite_true, ite_false, ↓reduceIte, nM_eq hM, regM_1, regM_0]) dX6_now_79
  by_cases c_6 : x = 5
  · refine lv_topE 5 c_6 ?_
    refine lv_tableIn (off := 79) (tgt := 80) C.1.1 C.1.2.1 dX6_now_1 (by decide) (by decide) rfl (by decide) ?_
    refine lv_aload_n C.1.1 C.1.2.1 dX6_now_80 rfl (lv_at hl 0 rfl) ?_
    refine lv_iconst (v := 1) C.1.1 C.1.2.1 dX6_now_81 rfl ?_
    refine a_F hS (run_V C hP hS hl.1 53 6 (Nat.lt_of_lt_of_le (by decide) hn) rfl (by decide) rfl [.int 1] (kX6_registered l g n v 1) gX6_now_X6_registered rfl hdX6_registered rfl ⟨rfl, rfl⟩ ⟨Nat.le_of_ble_eq_true rfl, Nat.le_of_ble_eq_true rfl⟩ rfl [] rfl (Nat.le_of_ble_eq_true rfl) dX6_now_82 ⟨Nat.zero_le _, Nat.zero_le _⟩) (fun H locs hP hS => ?_)
    exact t_F C rfl hP hS (by (rw [nowM, nM_eq hM]; rw [if_neg c_1, if_neg c_2, if_neg c_3, if_neg c_4, if_neg c_5, if_pos c_6]) <;> try simp only [fdM, upw_same, eq_self, if_true, if_false, ite_true, ite_false, ↓reduceIte, nM_eq hM, regM_1, regM_0]) (by (rw [nowM, nM_eq hM]; rw [if_neg c_1, if_neg c_2, if_neg c_3, if_neg c_4, if_neg c_5, if_pos c_6]) <;> try simp only [fdM, upw_same, eq_self, if_true, if_false, ite_true, ite_false, ↓reduceIte, nM_eq hM, regM_1, regM_0]) dX6_now_85
  by_cases c_7 : x = 6
  · refine lv_topE 6 c_7 ?_
    refine lv_tableIn (off := 85) (tgt := 86) C.1.1 C.1.2.1 dX6_now_1 (by decide) (by decide) rfl (by decide) ?_
    refine lv_aload_n C.1.1 C.1.2.1 dX6_now_86 rfl (lv_at hl 0 rfl) ?_
    refine lv_iconst (v := 0) C.1.1 C.1.2.1 dX6_now_87 rfl ?_
    refine a_F hS (run_V C hP hS hl.1 53 6 (Nat.lt_of_lt_of_le (by decide) hn) rfl (by decide) rfl [.int 0] (kX6_registered l g n v 0) gX6_now_X6_registered rfl hdX6_registered rfl ⟨rfl, rfl⟩ ⟨Nat.le_of_ble_eq_true rfl, Nat.le_of_ble_eq_true rfl⟩ rfl [] rfl (Nat.le_of_ble_eq_true rfl) dX6_now_88 ⟨Nat.zero_le _, Nat.zero_le _⟩) (fun H locs hP hS => ?_)
    exact t_F C rfl hP hS (by (rw [nowM, nM_eq hM]; rw [if_neg c_1, if_neg c_2, if_neg c_3, if_neg c_4, if_neg c_5, if_neg c_6, if_pos c_7]) <;> try simp only [fdM, upw_same, eq_self, if_true, if_false, ite_true, ite_false, ↓reduceIte, nM_eq hM, regM_1, regM_0]) (by (rw [nowM, nM_eq hM]; rw [if_neg c_1, if_neg c_2, if_neg c_3, if_neg c_4, if_neg c_5, if_neg c_6, if_pos c_7]) <;> try simp only [fdM, upw_same, eq_self, if_true, if_false, ite_true, ite_false, ↓reduceIte, nM_eq hM, regM_1, regM_0]) dX6_now_91
  by_cases c_8 : x = 7
  · refine lv_topE 7 c_8 ?_
    refine lv_tableIn (off := 91) (tgt := 92) C.1.1 C.1.2.1 dX6_now_1 (by decide) (by decide) rfl (by decide) ?_
    refine lv_aload_n C.1.1 C.1.2.1 dX6_now_92 rfl (lv_at hl 0 rfl) ?_
    refine a_F hS (run_V C hP hS hl.1 53 6 (Nat.lt_of_lt_of_le (by decide) hn) rfl (by decide) rfl [] (kX6_fetch l g n v ) gX6_now_X6_fetch rfl hdX6_fetch rfl ⟨rfl, rfl⟩ ⟨Nat.le_of_ble_eq_true rfl, Nat.le_of_ble_eq_true rfl⟩ rfl [] rfl (Nat.le_of_ble_eq_true rfl) dX6_now_93 ⟨Nat.zero_le _, Nat.zero_le _⟩) (fun H locs hP hS => ?_)
    exact t_F C rfl hP hS (by (rw [nowM, nM_eq hM]; rw [if_neg c_1, if_neg c_2, if_neg c_3, if_neg c_4, if_neg c_5, if_neg c_6, if_neg c_7, if_pos c_8]) <;> try simp only [fdM, upw_same, eq_self, if_true, if_false, ite_true, ite_false, ↓reduceIte, nM_eq hM, regM_1, regM_0]) (by (rw [nowM, nM_eq hM]; rw [if_neg c_1, if_neg c_2, if_neg c_3, if_neg c_4, if_neg c_5, if_neg c_6, if_neg c_7, if_pos c_8]) <;> try simp only [fdM, upw_same, eq_self, if_true, if_false, ite_true, ite_false, ↓reduceIte, nM_eq hM, regM_1, regM_0]) dX6_now_96
  have hsw : x.toInt < 0 ∨ 7 < x.toInt := by
    have qc_1 := lv_neT (a := 0) c_1 rfl
    have qc_2 := lv_neT (a := 1) c_2 rfl
    have qc_3 := lv_neT (a := 2) c_3 rfl
    have qc_4 := lv_neT (a := 3) c_4 rfl
    have qc_5 := lv_neT (a := 4) c_5 rfl
    have qc_6 := lv_neT (a := 5) c_6 rfl
    have qc_7 := lv_neT (a := 6) c_7 rfl
    have qc_8 := lv_neT (a := 7) c_8 rfl
    omega
  refine lv_tableOut (tgt := 97) C.1.1 C.1.2.1 dX6_now_1 hsw (by decide) ?_
  refine lv_aload_n C.1.1 C.1.2.1 dX6_now_97 rfl (lv_at hl 0 rfl) ?_
  refine lv_iconst (v := 0) C.1.1 C.1.2.1 dX6_now_98 rfl ?_
  refine a_F hS (run_V C hP hS hl.1 53 6 (Nat.lt_of_lt_of_le (by decide) hn) rfl (by decide) rfl [.int 0] (kX6_finds l g n v 0 (by decide)) gX6_now_X6_finds rfl hdX6_finds rfl ⟨rfl, rfl⟩ ⟨Nat.le_of_ble_eq_true rfl, Nat.le_of_ble_eq_true rfl⟩ rfl [] rfl (Nat.le_of_ble_eq_true rfl) dX6_now_99 ⟨Nat.zero_le _, Nat.zero_le _⟩) (fun H locs hP hS => ?_)
  obtain ⟨v_9, hv_9⟩ : ∃ zz, zz = fnd v 0 := ⟨_, rfl⟩
  rw [← hv_9] at hP
  exact t_F C rfl hP hS (by (rw [nowM, nM_eq hM]; rw [if_neg c_1, if_neg c_2, if_neg c_3, if_neg c_4, if_neg c_5, if_neg c_6, if_neg c_7, if_neg c_8]) <;> try simp only [fdM, upw_same, eq_self, if_true, if_false, ite_true, ite_false, ↓reduceIte, hv_9, nM_eq hM, regM_1, regM_0]) (by (rw [nowM, nM_eq hM]; rw [if_neg c_1, if_neg c_2, if_neg c_3, if_neg c_4, if_neg c_5, if_neg c_6, if_neg c_7, if_neg c_8]) <;> try simp only [fdM, upw_same, eq_self, if_true, if_false, ite_true, ite_false, ↓reduceIte, hv_9, nM_eq hM, regM_1, regM_0]) dX6_now_102

abbrev rmX6_behind : Room := { frames := 5, cells := 0, slots := 0, locals := 112 }
set_option maxHeartbeats 4000000 in
set_option maxRecDepth 100000 in
theorem kX6_behind (l : Launch) (g : GG) (n : Nat) (v : SV) (k j : Nat) (hk : k ≤ 200) (hj : j < 83) (N : Nat) (hM : okM (v.1 54) N) : Met l yX6_behind wsX6_behind rmX6_behind (PW g n v [.ref (gA g 53), .int (nI k), .int (nI j)]) (QF g n (daysM (v.1 54) k j) (upw v 54 (cpyM (v.1 56) (daysM (v.1 54) k) 83))) 0 0 (wA g n) := by
  refine Met.begin RX6 rfl (by decide) rfl (Nat.le_of_ble_eq_true rfl) ?_
  intro p e s m args below meth c ls ha C hP hS hl
  have hn : 64 ≤ n := C.2.1.1.2.1
  have hi6 : ∀ w ∈ u_ws RX6 TX6 17, w ∈ wsX6_behind := by decide +kernel
  have hl : lv_has ls 4 [(0, .ref (gA g 53)), (1, .int (nI k)), (2, .int (nI j))] := hl
  refine lv_aload_n C.1.1 C.1.2.1 dX6_behind_0 rfl (lv_at hl 0 rfl) ?_
  refine lv_iload_n C.1.1 C.1.2.1 dX6_behind_1 rfl (lv_at hl 1 rfl) ?_
  refine a_G hS (run_V C hP hS hl.1 53 6 (Nat.lt_of_lt_of_le (by decide) hn) rfl (by decide) rfl [.int (nI k)] (kX6_daysGo l g n v k N (by omega) hM) gX6_behind_X6_daysGo rfl hdX6_daysGo rfl ⟨rfl, rfl⟩ ⟨Nat.le_of_ble_eq_true rfl, Nat.le_of_ble_eq_true rfl⟩ rfl [] rfl (Nat.le_of_ble_eq_true rfl) dX6_behind_2 ⟨Nat.zero_le _, Nat.zero_le _⟩) (fun H locs hP hS => ?_)
  obtain ⟨v_1, hv_1⟩ : ∃ zz, zz = upw v 54 (daysM (v.1 54) k) := ⟨_, rfl⟩
  rw [← hv_1] at hP
  refine lv_aload_n C.1.1 C.1.2.1 dX6_behind_5 rfl (lv_at hl 0 rfl) ?_
  refine r_get C hP 53 6 (Nat.lt_of_lt_of_le (by decide) hn) rfl (by decide) rfl hi6 0 (by decide) (List.mem_of_getElem? (i := 1) rfl) rfl (val := .ref (gA g 54)) rfl dX6_behind_6 ?_
  refine lv_iload_n C.1.1 C.1.2.1 dX6_behind_9 rfl (lv_at hl 2 rfl) ?_
  refine r_iald C hP 54 (Nat.lt_of_lt_of_le (by decide) hn) rfl j rfl (N := 83) rfl (by decide) (by omega) dX6_behind_10 ?_
  refine lv_istore_n (lv' := [(3, .int (v_1.1 54 j)), (0, .ref (gA g 53)), (1, .int (nI k)), (2, .int (nI j))]) C.1.1 C.1.2.1 dX6_behind_11 rfl hl (by decide) rfl (fun ls hl => ?_)
  refine lv_aload_n C.1.1 C.1.2.1 dX6_behind_12 rfl (lv_at hl 1 rfl) ?_
  refine r_get C hP 53 6 (Nat.lt_of_lt_of_le (by decide) hn) rfl (by decide) rfl hi6 2 (by decide) (List.mem_of_getElem? (i := 2) rfl) rfl (val := .ref (gA g 56)) rfl dX6_behind_13 ?_
  refine lv_aload_n C.1.1 C.1.2.1 dX6_behind_16 rfl (lv_at hl 1 rfl) ?_
  refine r_get C hP 53 6 (Nat.lt_of_lt_of_le (by decide) hn) rfl (by decide) rfl hi6 0 (by decide) (List.mem_of_getElem? (i := 1) rfl) rfl (val := .ref (gA g 54)) rfl dX6_behind_17 ?_
  refine a_G hS (run_S C hP hS hl.1 [.ref (gA g 56), .ref (gA g 54)] (kX6_copies l g n v_1 56 54 (by decide) (by decide) (by decide)) gX6_behind_X6_copies hdX6_copies rfl ⟨rfl, rfl⟩ ⟨Nat.le_of_ble_eq_true rfl, Nat.le_of_ble_eq_true rfl⟩ rfl [] rfl (Nat.le_of_ble_eq_true rfl) dX6_behind_20 ⟨Nat.zero_le _, Nat.zero_le _⟩) (fun H locs hP hS => ?_)
  obtain ⟨v_2, hv_2⟩ : ∃ zz, zz = upw v_1 54 (cpyM (v_1.1 56) (v_1.1 54) 83) := ⟨_, rfl⟩
  rw [← hv_2] at hP
  refine lv_iload_n C.1.1 C.1.2.1 dX6_behind_23 rfl (lv_at hl 0 rfl) ?_
  exact t_F C rfl hP hS (by rw [hv_1, upw_same]) (by rw [hv_2, hv_1, upw_upw, upw_same, upw_ne _ _ (by decide)]) dX6_behind_24

