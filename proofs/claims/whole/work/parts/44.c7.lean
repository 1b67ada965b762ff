abbrev rmX1_isMissing : Room := { frames := 0, cells := 0, slots := 0, locals := 0 }
set_option maxHeartbeats 4000000 in
set_option maxRecDepth 100000 in
theorem kX1_isMissing (l : Launch) (g : GG) (n : Nat) (v : SV) (k : Nat) (hk : k < 63) (hk0 : kd k = 1) (hk8 : kd (k + 1) = 8) (hln : ln (k + 1) = 40) : Met l yX1_isMissing wsX1_isMissing rmX1_isMissing (PW g n v [.ref (gA g k)]) (QB g n (v.1 k 0 = 0) v) 0 0 (wA g n) := by
  refine Met.begin RX1 rfl (by decide) rfl (Nat.le_of_ble_eq_true rfl) ?_
  intro p e s m args below meth c ls ha C hP hS hl
  have hn : 64 ≤ n := C.2.1.1.2.1
  have hi1 : ∀ w ∈ u_ws RX1 TX1 3, w ∈ wsX1_isMissing := by decide +kernel
  have hl : lv_has ls 1 [(0, .ref (gA g k))] := hl
  have hk1 : k < n := by omega
  refine lv_aload_n C.1.1 C.1.2.1 dX1_isMissing_0 rfl (lv_at hl 0 rfl) ?_
  refine r_get C hP k 1 hk1 hk0 (by decide) rfl hi1 0 (by decide) (List.mem_of_getElem? (i := 1) rfl) rfl (val := .int (v.1 k 0)) rfl dX1_isMissing_1 ?_
  refine lv_if_ne (tgt := 11) C.1.1 C.1.2.1 dX1_isMissing_4 (by decide) (fun c_1 => ?_) (fun c_1 => ?_)
  · skip
    refine lv_iconst (v := 0) C.1.1 C.1.2.1 dX1_isMissing_11 rfl ?_
    exact t_0 C rfl hP hS (by assumption) rfl dX1_isMissing_12
  · skip
    refine lv_iconst (v := 1) C.1.1 C.1.2.1 dX1_isMissing_7 rfl ?_
    refine lv_goto (tgt := 12) C.1.1 C.1.2.1 dX1_isMissing_8 (by decide) ?_
    exact t_1 C rfl hP hS (by assumption) rfl dX1_isMissing_12

abbrev rmX1_makeAnew : Room := { frames := 1, cells := 0, slots := 0, locals := 23 }
set_option maxHeartbeats 4000000 in
set_option maxRecDepth 100000 in
theorem kX1_makeAnew (l : Launch) (g : GG) (n : Nat) (v : SV) (k : Nat) (hk : k < 63) (hk0 : kd k = 1) (hk8 : kd (k + 1) = 8) (hln : ln (k + 1) = 40) (x y : Int32) : Met l yX1_makeAnew wsX1_makeAnew rmX1_makeAnew (PW g n v [.ref (gA g k), .int x, .int y]) (QG g n (mkS v k x y)) 0 0 (wA g n) := by
  refine Met.begin RX1 rfl (by decide) rfl (Nat.le_of_ble_eq_true rfl) ?_
  intro p e s m args below meth c ls ha C hP hS hl
  have hn : 64 ≤ n := C.2.1.1.2.1
  have hi1 : ∀ w ∈ u_ws RX1 TX1 3, w ∈ wsX1_makeAnew := by decide +kernel
  have hl : lv_has ls 3 [(0, .ref (gA g k)), (1, .int x), (2, .int y)] := hl
  have hk1 : k < n := by omega
  refine lv_aload_n C.1.1 C.1.2.1 dX1_makeAnew_0 rfl (lv_at hl 0 rfl) ?_
  refine lv_iload_n C.1.1 C.1.2.1 dX1_makeAnew_1 rfl (lv_at hl 1 rfl) ?_
  refine r_put C hP hS k 1 hk1 hk0 (by decide) rfl hi1 tyX1 tyX1_ok nmX1 0 (by decide) (List.mem_of_getElem? (i := 1) rfl) rfl rfl rfl rfl rfl (Nat.le_of_ble_eq_true rfl) dX1_makeAnew_2 (fun H locs hP hS => ?_)
  obtain ⟨v_2, hv_2⟩ : ∃ zz, zz = up v k 0 x := ⟨_, rfl⟩
  rw [← hv_2] at hP
  refine lv_aload_n C.1.1 C.1.2.1 dX1_makeAnew_5 rfl (lv_at hl 0 rfl) ?_
  refine lv_iload_n C.1.1 C.1.2.1 dX1_makeAnew_6 rfl (lv_at hl 1 rfl) ?_
  refine lv_if_ne (tgt := 14) C.1.1 C.1.2.1 dX1_makeAnew_7 (by decide) (fun c_3 => ?_) (fun c_3 => ?_)
  · skip
    refine lv_iload_n C.1.1 C.1.2.1 dX1_makeAnew_14 rfl (lv_at hl 2 rfl) ?_
    refine r_put C hP hS k 1 hk1 hk0 (by decide) rfl hi1 tyX1 tyX1_ok nmX1 1 (by decide) (List.mem_of_getElem? (i := 2) rfl) rfl rfl rfl rfl rfl (Nat.le_of_ble_eq_true rfl) dX1_makeAnew_15 (fun H locs hP hS => ?_)
    obtain ⟨v_5, hv_5⟩ : ∃ zz, zz = up v_2 k 1 y := ⟨_, rfl⟩
    rw [← hv_5] at hP
    refine lv_aload_n C.1.1 C.1.2.1 dX1_makeAnew_18 rfl (lv_at hl 0 rfl) ?_
    refine r_get C hP k 1 hk1 hk0 (by decide) rfl hi1 2 (by decide) (List.mem_of_getElem? (i := 3) rfl) rfl (val := .ref (gA g (k + 1))) rfl dX1_makeAnew_19 ?_
    refine lv_iconst (v := 0) C.1.1 C.1.2.1 dX1_makeAnew_22 rfl ?_
    refine a_G hS (run_S C hP hS hl.1 [.ref (gA g (k + 1)), .int 0] (kJ7_fill_53178 l g n v_5 (k + 1) (by omega) hk8 40 hln (by omega) 0) gX1_makeAnew_J7_fill_53178 hdJ7_fill_53178 rfl ⟨rfl, rfl⟩ ⟨Nat.le_of_ble_eq_true rfl, Nat.le_of_ble_eq_true rfl⟩ rfl [] rfl (Nat.le_of_ble_eq_true rfl) dX1_makeAnew_23 ⟨Nat.zero_le _, Nat.zero_le _⟩) (fun H locs hP hS => ?_)
    obtain ⟨v_6, hv_6⟩ : ∃ zz, zz = upw v_5 (k + 1) (fillM (v_5.1 (k + 1)) 0 40) := ⟨_, rfl⟩
    rw [← hv_6] at hP
    exact t_G C rfl hP hS (by subst hv_6 hv_5 hv_2; rw [mkS, if_neg c_3, upw_ne _ _ (show k + 1 ≠ k by omega), upw_ne _ _ (show k + 1 ≠ k by omega)]) dX1_makeAnew_26
  · skip
    refine lv_iconst (v := 0) C.1.1 C.1.2.1 dX1_makeAnew_10 rfl ?_
    refine lv_goto (tgt := 15) C.1.1 C.1.2.1 dX1_makeAnew_11 (by decide) ?_
    refine r_put C hP hS k 1 hk1 hk0 (by decide) rfl hi1 tyX1 tyX1_ok nmX1 1 (by decide) (List.mem_of_getElem? (i := 2) rfl) rfl rfl rfl rfl rfl (Nat.le_of_ble_eq_true rfl) dX1_makeAnew_15 (fun H locs hP hS => ?_)
    obtain ⟨v_8, hv_8⟩ : ∃ zz, zz = up v_2 k 1 0 := ⟨_, rfl⟩
    rw [← hv_8] at hP
    refine lv_aload_n C.1.1 C.1.2.1 dX1_makeAnew_18 rfl (lv_at hl 0 rfl) ?_
    refine r_get C hP k 1 hk1 hk0 (by decide) rfl hi1 2 (by decide) (List.mem_of_getElem? (i := 3) rfl) rfl (val := .ref (gA g (k + 1))) rfl dX1_makeAnew_19 ?_
    refine lv_iconst (v := 0) C.1.1 C.1.2.1 dX1_makeAnew_22 rfl ?_
    refine a_G hS (run_S C hP hS hl.1 [.ref (gA g (k + 1)), .int 0] (kJ7_fill_53178 l g n v_8 (k + 1) (by omega) hk8 40 hln (by omega) 0) gX1_makeAnew_J7_fill_53178 hdJ7_fill_53178 rfl ⟨rfl, rfl⟩ ⟨Nat.le_of_ble_eq_true rfl, Nat.le_of_ble_eq_true rfl⟩ rfl [] rfl (Nat.le_of_ble_eq_true rfl) dX1_makeAnew_23 ⟨Nat.zero_le _, Nat.zero_le _⟩) (fun H locs hP hS => ?_)
    obtain ⟨v_9, hv_9⟩ : ∃ zz, zz = upw v_8 (k + 1) (fillM (v_8.1 (k + 1)) 0 40) := ⟨_, rfl⟩
    rw [← hv_9] at hP
    exact t_G C rfl hP hS (by subst hv_9 hv_8 hv_2; rw [mkS, if_pos c_3, upw_ne _ _ (show k + 1 ≠ k by omega), upw_ne _ _ (show k + 1 ≠ k by omega)]) dX1_makeAnew_26

abbrev rmX1_put : Room := { frames := 0, cells := 0, slots := 0, locals := 0 }
set_option maxHeartbeats 4000000 in
set_option maxRecDepth 100000 in
theorem kX1_put (l : Launch) (g : GG) (n : Nat) (v : SV) (k : Nat) (hk : k < 63) (hk0 : kd k = 1) (hk8 : kd (k + 1) = 8) (hln : ln (k + 1) = 40) (i : Nat) (hi : i < 40) (x : Int32) : Met l yX1_put wsX1_put rmX1_put (PW g n v [.ref (gA g k), .int (nI i), .int x]) (QG g n (up v (k + 1) i (cutF (v.1 k 0) x))) 0 0 (wA g n) := by
  refine Met.begin RX1 rfl (by decide) rfl (Nat.le_of_ble_eq_true rfl) ?_
  intro p e s m args below meth c ls ha C hP hS hl
  have hn : 64 ≤ n := C.2.1.1.2.1
  have hi1 : ∀ w ∈ u_ws RX1 TX1 3, w ∈ wsX1_put := by decide +kernel
  have hl : lv_has ls 3 [(0, .ref (gA g k)), (1, .int (nI i)), (2, .int x)] := hl
  have hk1 : k < n := by omega
  refine lv_aload_n C.1.1 C.1.2.1 dX1_put_0 rfl (lv_at hl 0 rfl) ?_
  refine r_get C hP k 1 hk1 hk0 (by decide) rfl hi1 0 (by decide) (List.mem_of_getElem? (i := 1) rfl) rfl (val := .int (v.1 k 0)) rfl dX1_put_1 ?_
  refine lv_bipush (v := 8) C.1.1 C.1.2.1 dX1_put_4 rfl ?_
  refine lv_icmp_ne (tgt := 20) C.1.1 C.1.2.1 dX1_put_6 (by decide) (fun c_1 => ?_) (fun c_1 => ?_)
  · skip
    refine lv_aload_n C.1.1 C.1.2.1 dX1_put_20 rfl (lv_at hl 0 rfl) ?_
    refine r_get C hP k 1 hk1 hk0 (by decide) rfl hi1 0 (by decide) (List.mem_of_getElem? (i := 1) rfl) rfl (val := .int (v.1 k 0)) rfl dX1_put_21 ?_
    refine lv_bipush (v := 16) C.1.1 C.1.2.1 dX1_put_24 rfl ?_
    refine lv_icmp_ne (tgt := 40) C.1.1 C.1.2.1 dX1_put_26 (by decide) (fun c_2 => ?_) (fun c_2 => ?_)
    · skip
      refine lv_aload_n C.1.1 C.1.2.1 dX1_put_40 rfl (lv_at hl 0 rfl) ?_
      refine r_get C hP k 1 hk1 hk0 (by decide) rfl hi1 2 (by decide) (List.mem_of_getElem? (i := 2) rfl) rfl (val := .ref (gA g (k + 1))) rfl dX1_put_41 ?_
      refine lv_iload_n C.1.1 C.1.2.1 dX1_put_44 rfl (lv_at hl 1 rfl) ?_
      refine lv_iload_n C.1.1 C.1.2.1 dX1_put_45 rfl (lv_at hl 2 rfl) ?_
      refine r_iast C hP hS (k + 1) (by omega) hk8 i rfl (N := 40) hln (by decide) (by omega) dX1_put_46 (fun H locs hP hS => ?_)
      exact t_G C rfl hP hS (by rw [cutF, if_neg c_1, if_neg c_2]) dX1_put_47
    · skip
      refine lv_aload_n C.1.1 C.1.2.1 dX1_put_29 rfl (lv_at hl 0 rfl) ?_
      refine r_get C hP k 1 hk1 hk0 (by decide) rfl hi1 2 (by decide) (List.mem_of_getElem? (i := 2) rfl) rfl (val := .ref (gA g (k + 1))) rfl dX1_put_30 ?_
      refine lv_iload_n C.1.1 C.1.2.1 dX1_put_33 rfl (lv_at hl 1 rfl) ?_
      refine lv_iload_n C.1.1 C.1.2.1 dX1_put_34 rfl (lv_at hl 2 rfl) ?_
      refine lv_i2s (v := x.toInt16.toInt32) C.1.1 C.1.2.1 dX1_put_35 rfl ?_
      refine r_iast C hP hS (k + 1) (by omega) hk8 i rfl (N := 40) hln (by decide) (by omega) dX1_put_36 (fun H locs hP hS => ?_)
      refine lv_goto (tgt := 47) C.1.1 C.1.2.1 dX1_put_37 (by decide) ?_
      exact t_G C rfl hP hS (by rw [cutF, if_neg c_1, if_pos c_2]) dX1_put_47
  · skip
    refine lv_aload_n C.1.1 C.1.2.1 dX1_put_9 rfl (lv_at hl 0 rfl) ?_
    refine r_get C hP k 1 hk1 hk0 (by decide) rfl hi1 2 (by decide) (List.mem_of_getElem? (i := 2) rfl) rfl (val := .ref (gA g (k + 1))) rfl dX1_put_10 ?_
    refine lv_iload_n C.1.1 C.1.2.1 dX1_put_13 rfl (lv_at hl 1 rfl) ?_
    refine lv_iload_n C.1.1 C.1.2.1 dX1_put_14 rfl (lv_at hl 2 rfl) ?_
    refine lv_i2b (v := x.toInt8.toInt32) C.1.1 C.1.2.1 dX1_put_15 rfl ?_
    refine r_iast C hP hS (k + 1) (by omega) hk8 i rfl (N := 40) hln (by decide) (by omega) dX1_put_16 (fun H locs hP hS => ?_)
    refine lv_goto (tgt := 47) C.1.1 C.1.2.1 dX1_put_17 (by decide) ?_
    exact t_G C rfl hP hS (by rw [cutF, if_pos c_1]) dX1_put_47

abbrev rmX1_hasRow : Room := { frames := 0, cells := 0, slots := 0, locals := 0 }
set_option maxHeartbeats 4000000 in
set_option maxRecDepth 100000 in
theorem kX1_hasRow (l : Launch) (g : GG) (n : Nat) (v : SV) (k : Nat) (hk : k < 63) (hk0 : kd k = 1) (hk8 : kd (k + 1) = 8) (hln : ln (k + 1) = 40) (x y : Int32) : Met l yX1_hasRow wsX1_hasRow rmX1_hasRow (PW g n v [.ref (gA g k), .int x, .int y]) (QB g n (rowP (v.1 k 1) x y) v) 0 0 (wA g n) := by
  refine Met.begin RX1 rfl (by decide) rfl (Nat.le_of_ble_eq_true rfl) ?_
  intro p e s m args below meth c ls ha C hP hS hl
  have hn : 64 ≤ n := C.2.1.1.2.1
  have hi1 : ∀ w ∈ u_ws RX1 TX1 3, w ∈ wsX1_hasRow := by decide +kernel
  have hl : lv_has ls 3 [(0, .ref (gA g k)), (1, .int x), (2, .int y)] := hl
  have hk1 : k < n := by omega
  refine lv_iload_n C.1.1 C.1.2.1 dX1_hasRow_0 rfl (lv_at hl 1 rfl) ?_
  refine lv_if_lt (tgt := 22) C.1.1 C.1.2.1 dX1_hasRow_1 (by decide) (fun c_1 => ?_) (fun c_1 => ?_)
  · skip
    refine lv_iconst (v := 0) C.1.1 C.1.2.1 dX1_hasRow_22 rfl ?_
    exact t_0 C rfl hP hS (fun h => fa_lt_nle c_1 h.1) rfl dX1_hasRow_23
  · skip
    refine lv_iload_n C.1.1 C.1.2.1 dX1_hasRow_4 rfl (lv_at hl 2 rfl) ?_
    refine lv_if_lt (tgt := 22) C.1.1 C.1.2.1 dX1_hasRow_5 (by decide) (fun c_2 => ?_) (fun c_2 => ?_)
    · skip
      refine lv_iconst (v := 0) C.1.1 C.1.2.1 dX1_hasRow_22 rfl ?_
      exact t_0 C rfl hP hS (fun h => fa_lt_nle c_2 h.2.1) rfl dX1_hasRow_23
    · skip
      refine lv_iload_n C.1.1 C.1.2.1 dX1_hasRow_8 rfl (lv_at hl 2 rfl) ?_
      refine lv_aload_n C.1.1 C.1.2.1 dX1_hasRow_9 rfl (lv_at hl 0 rfl) ?_
      refine r_get C hP k 1 hk1 hk0 (by decide) rfl hi1 1 (by decide) (List.mem_of_getElem? (i := 1) rfl) rfl (val := .int (v.1 k 1)) rfl dX1_hasRow_10 ?_
      refine lv_iload_n C.1.1 C.1.2.1 dX1_hasRow_13 rfl (lv_at hl 1 rfl) ?_
      refine lv_isub C.1.1 C.1.2.1 dX1_hasRow_14 ?_
      refine lv_icmp_gt (tgt := 22) C.1.1 C.1.2.1 dX1_hasRow_15 (by decide) (fun c_3 => ?_) (fun c_3 => ?_)
      · skip
        refine lv_iconst (v := 0) C.1.1 C.1.2.1 dX1_hasRow_22 rfl ?_
        exact t_0 C rfl hP hS (fun h => fa_lt_nle c_3 h.2.2) rfl dX1_hasRow_23
      · skip
        refine lv_iconst (v := 1) C.1.1 C.1.2.1 dX1_hasRow_18 rfl ?_
        refine lv_goto (tgt := 23) C.1.1 C.1.2.1 dX1_hasRow_19 (by decide) ?_
        exact t_1 C rfl hP hS (⟨fa_nlt c_1, fa_nlt c_2, fa_nlt c_3⟩) rfl dX1_hasRow_23

abbrev rmX5_wrongWithSheet : Room := { frames := 2, cells := 0, slots := 0, locals := 42 }
set_option maxHeartbeats 4000000 in
set_option maxRecDepth 100000 in
theorem kX5_wrongWithSheet (l : Launch) (g : GG) (n : Nat) (v : SV) (x : Int32) : Met l yX5_wrongWithSheet wsX5_wrongWithSheet rmX5_wrongWithSheet (PW g n v [.ref (gA g 0), .int x]) (QF g n (wwF v x) v) 0 0 (wA g n) := by
  refine Met.begin RX5 rfl (by decide) rfl (Nat.le_of_ble_eq_true rfl) ?_
  intro p e s m args below meth c ls ha C hP hS hl
  have hn : 64 ≤ n := C.2.1.1.2.1
  have hi1 : ∀ w ∈ u_ws RX1 TX1 3, w ∈ wsX5_wrongWithSheet := by decide +kernel
  have hi5 : ∀ w ∈ u_ws RX5 TX5 8, w ∈ wsX5_wrongWithSheet := by decide +kernel
  have hl : lv_has ls 2 [(0, .ref (gA g 0)), (1, .int x)] := hl
  refine lv_iload_n C.1.1 C.1.2.1 dX5_wrongWithSheet_0 rfl (lv_at hl 1 rfl) ?_
  refine a_B hS (run_S C hP hS hl.1 [.int x] (kX5_isSheet l g n v x) gX5_wrongWithSheet_X5_isSheet hdX5_isSheet rfl ⟨rfl, rfl⟩ ⟨Nat.le_of_ble_eq_true rfl, Nat.le_of_ble_eq_true rfl⟩ rfl [] rfl (Nat.le_of_ble_eq_true rfl) dX5_wrongWithSheet_1 ⟨Nat.zero_le _, Nat.zero_le _⟩) (fun b_1 H locs hP hS => ?_) (fun b_1 H locs hP hS => ?_)
  · skip
    have kb_1 := b_1
    obtain ⟨jx, hjx, rfl⟩ := b_1
    refine lv_if_ne (tgt := 10) C.1.1 C.1.2.1 dX5_wrongWithSheet_4 (by decide) (fun _ => ?_) (fun c_2 => absurd c_2 (by decide))
    refine lv_aload_n C.1.1 C.1.2.1 dX5_wrongWithSheet_10 rfl (lv_at hl 0 rfl) ?_
    refine r_get C hP 0 5 (Nat.lt_of_lt_of_le (by decide) hn) rfl (by decide) rfl hi5 6 (by decide) (List.mem_of_getElem? (i := 2) rfl) rfl (val := .ref (gA g 43)) rfl dX5_wrongWithSheet_11 ?_
    refine lv_iload_n C.1.1 C.1.2.1 dX5_wrongWithSheet_14 rfl (lv_at hl 1 rfl) ?_
    refine r_aaldS C hP 43 (Nat.lt_of_lt_of_le (by decide) hn) rfl jx rfl (by omega) dX5_wrongWithSheet_15 ?_
    refine a_B hS (run_V C hP hS hl.1 (44 + 2 * jx) 1 (by omega) (kd_sh jx (by omega)).1 (by decide) rfl [] (kX1_isMissing l g n v (44 + 2 * jx) (by omega) (kd_sh jx (by omega)).1 (kd_sh jx (by omega)).2.1 (kd_sh jx (by omega)).2.2) gX5_wrongWithSheet_X1_isMissing rfl hdX1_isMissing rfl ⟨rfl, rfl⟩ ⟨Nat.le_of_ble_eq_true rfl, Nat.le_of_ble_eq_true rfl⟩ rfl [] rfl (Nat.le_of_ble_eq_true rfl) dX5_wrongWithSheet_16 ⟨Nat.zero_le _, Nat.zero_le _⟩) (fun b_3 H locs hP hS => ?_) (fun b_3 H locs hP hS => ?_)
    · skip
      refine lv_if_eq (tgt := 27) C.1.1 C.1.2.1 dX5_wrongWithSheet_19 (by decide) (fun c_4 => absurd c_4 (by decide)) (fun _ => ?_)
      refine lv_ldc (v := (-1000006)) C.1.1 C.1.2.1 C.1.2.2.2.1 (C.1.2.2.2.2 _ (List.mem_of_getElem? (i := 3) rfl)) dX5_wrongWithSheet_22 ?_
      refine lv_goto (tgt := 28) C.1.1 C.1.2.1 dX5_wrongWithSheet_24 (by decide) ?_
      exact t_F C rfl hP hS (by rw [wwF, cif_pos kb_1, tn_nI (by omega), if_pos b_3]) rfl dX5_wrongWithSheet_28
    · skip
      refine lv_if_eq (tgt := 27) C.1.1 C.1.2.1 dX5_wrongWithSheet_19 (by decide) (fun _ => ?_) (fun c_5 => absurd c_5 (by decide))
      refine lv_iconst (v := 0) C.1.1 C.1.2.1 dX5_wrongWithSheet_27 rfl ?_
      exact t_F C rfl hP hS (by rw [wwF, cif_pos kb_1, tn_nI (by omega), if_neg b_3]) rfl dX5_wrongWithSheet_28
  · skip
    refine lv_if_ne (tgt := 10) C.1.1 C.1.2.1 dX5_wrongWithSheet_4 (by decide) (fun c_6 => absurd c_6 (by decide)) (fun _ => ?_)
    refine lv_ldc (v := (-1000001)) C.1.1 C.1.2.1 C.1.2.2.2.1 (C.1.2.2.2.2 _ (List.mem_of_getElem? (i := 1) rfl)) dX5_wrongWithSheet_7 ?_
    exact t_F C rfl hP hS (by rw [wwF, cif_neg b_1]) rfl dX5_wrongWithSheet_9

abbrev rmX5_wrongWithStandings : Room := { frames := 3, cells := 0, slots := 0, locals := 63 }
set_option maxHeartbeats 4000000 in
set_option maxRecDepth 100000 in
theorem kX5_wrongWithStandings (l : Launch) (g : GG) (n : Nat) (v : SV) (x y : Int32) (N : Nat) (hR : Rl v N) : Met l yX5_wrongWithStandings wsX5_wrongWithStandings rmX5_wrongWithStandings (PW g n v [.ref (gA g 0), .int x, .int y]) (QF g n (wnF v x y N) v) 0 0 (wA g n) := by
  refine Met.begin RX5 rfl (by decide) rfl (Nat.le_of_ble_eq_true rfl) ?_
  intro p e s m args below meth c ls ha C hP hS hl
  have hn : 64 ≤ n := C.2.1.1.2.1
  have hi1 : ∀ w ∈ u_ws RX1 TX1 3, w ∈ wsX5_wrongWithStandings := by decide +kernel
  have hi2 : ∀ w ∈ u_ws RX2 TX2 11, w ∈ wsX5_wrongWithStandings := by decide +kernel
  have hi5 : ∀ w ∈ u_ws RX5 TX5 8, w ∈ wsX5_wrongWithStandings := by decide +kernel
  have hl : lv_has ls 4 [(0, .ref (gA g 0)), (1, .int x), (2, .int y)] := hl
  have hC := hR.1.1
  have hA := hR.1.2
  have h8 := hC.1
  have hD : okC (v.1 54) N := okC_agr (agr_symm hA) hC
  have hM := okC_M hD
  refine lv_aload_n C.1.1 C.1.2.1 dX5_wrongWithStandings_0 rfl (lv_at hl 0 rfl) ?_
  refine lv_iload_n C.1.1 C.1.2.1 dX5_wrongWithStandings_1 rfl (lv_at hl 1 rfl) ?_
  refine a_F hS (run_V C hP hS hl.1 0 5 (Nat.lt_of_lt_of_le (by decide) hn) rfl (by decide) rfl [.int x] (kX5_wrongWithSheet l g n v x) gX5_wrongWithStandings_X5_wrongWithSheet rfl hdX5_wrongWithSheet rfl ⟨rfl, rfl⟩ ⟨Nat.le_of_ble_eq_true rfl, Nat.le_of_ble_eq_true rfl⟩ rfl [] rfl (Nat.le_of_ble_eq_true rfl) dX5_wrongWithStandings_2 ⟨Nat.zero_le _, Nat.zero_le _⟩) (fun H locs hP hS => ?_)
  refine lv_istore_n (lv' := [(3, .int (wwF v x)), (0, .ref (gA g 0)), (1, .int x), (2, .int y)]) C.1.1 C.1.2.1 dX5_wrongWithStandings_5 rfl hl (by decide) rfl (fun ls hl => ?_)
  refine lv_iload_n C.1.1 C.1.2.1 dX5_wrongWithStandings_6 rfl (lv_at hl 0 rfl) ?_
  refine lv_if_eq (tgt := 12) C.1.1 C.1.2.1 dX5_wrongWithStandings_7 (by decide) (fun c_1 => ?_) (fun c_1 => ?_)
  · skip
    refine lv_aload_n C.1.1 C.1.2.1 dX5_wrongWithStandings_12 rfl (lv_at hl 1 rfl) ?_
    refine r_get C hP 0 5 (Nat.lt_of_lt_of_le (by decide) hn) rfl (by decide) rfl hi5 0 (by decide) (List.mem_of_getElem? (i := 1) rfl) rfl (val := .ref (gA g 1)) rfl dX5_wrongWithStandings_13 ?_
    refine lv_iload_n C.1.1 C.1.2.1 dX5_wrongWithStandings_16 rfl (lv_at hl 3 rfl) ?_
    refine a_B hS (run_V C hP hS hl.1 1 2 (Nat.lt_of_lt_of_le (by decide) hn) rfl (by decide) rfl [.int y] (kX2_has l g n v y v 1 (stR v 1) N (Or.inl rfl) (scr_self (sam_rfl v).1) hC) gX5_wrongWithStandings_X2_has rfl hdX2_has rfl ⟨rfl, rfl⟩ ⟨Nat.le_of_ble_eq_true rfl, Nat.le_of_ble_eq_true rfl⟩ rfl [] rfl (Nat.le_of_ble_eq_true rfl) dX5_wrongWithStandings_17 ⟨Nat.zero_le _, Nat.zero_le _⟩) (fun b_2 H locs hP hS => ?_) (fun b_2 H locs hP hS => ?_)
    · skip
      have kb_2 := b_2
      obtain ⟨jy, hjy, rfl⟩ := b_2
      refine lv_if_eq (tgt := 27) C.1.1 C.1.2.1 dX5_wrongWithStandings_20 (by decide) (fun c_3 => absurd c_3 (by decide)) (fun _ => ?_)
      refine lv_iconst (v := 0) C.1.1 C.1.2.1 dX5_wrongWithStandings_23 rfl ?_
      refine lv_goto (tgt := 29) C.1.1 C.1.2.1 dX5_wrongWithStandings_24 (by decide) ?_
      exact t_F C rfl hP hS (by rw [wnF, if_pos c_1, cif_pos kb_2]) rfl dX5_wrongWithStandings_29
    · skip
      refine lv_if_eq (tgt := 27) C.1.1 C.1.2.1 dX5_wrongWithStandings_20 (by decide) (fun _ => ?_) (fun c_4 => absurd c_4 (by decide))
      refine lv_ldc (v := (-1000001)) C.1.1 C.1.2.1 C.1.2.2.2.1 (C.1.2.2.2.2 _ (List.mem_of_getElem? (i := 2) rfl)) dX5_wrongWithStandings_27 ?_
      exact t_F C rfl hP hS (by rw [wnF, if_pos c_1, cif_neg b_2]) rfl dX5_wrongWithStandings_29
  · skip
    refine lv_iload_n C.1.1 C.1.2.1 dX5_wrongWithStandings_10 rfl (lv_at hl 0 rfl) ?_
    exact t_F C rfl hP hS (by rw [wnF, if_neg c_1]) rfl dX5_wrongWithStandings_11

abbrev rmX5_write : Room := { frames := 3, cells := 0, slots := 0, locals := 63 }
set_option maxHeartbeats 4000000 in
set_option maxRecDepth 100000 in
theorem kX5_write (l : Launch) (g : GG) (n : Nat) (v : SV) (x y z : Int32) (N : Nat) (hR : Rl v N) : Met l yX5_write wsX5_write rmX5_write (PW g n v [.ref (gA g 0), .int x, .int y, .int z]) (QP g n v (fun u => writeM u x y z)) 0 0 (wA g n) := by
  refine Met.begin RX5 rfl (by decide) rfl (Nat.le_of_ble_eq_true rfl) ?_
  intro p e s m args below meth c ls ha C hP hS hl
  have hn : 64 ≤ n := C.2.1.1.2.1
  have hi1 : ∀ w ∈ u_ws RX1 TX1 3, w ∈ wsX5_write := by decide +kernel
  have hi5 : ∀ w ∈ u_ws RX5 TX5 8, w ∈ wsX5_write := by decide +kernel
  have hl : lv_has ls 5 [(0, .ref (gA g 0)), (1, .int x), (2, .int y), (3, .int z)] := hl
  have hC := hR.1.1
  have hA := hR.1.2
  have h8 := hC.1
  have hD : okC (v.1 54) N := okC_agr (agr_symm hA) hC
  have hM := okC_M hD
  refine lv_aload_n C.1.1 C.1.2.1 dX5_write_0 rfl (lv_at hl 0 rfl) ?_
  refine lv_iload_n C.1.1 C.1.2.1 dX5_write_1 rfl (lv_at hl 1 rfl) ?_
  refine a_F hS (run_V C hP hS hl.1 0 5 (Nat.lt_of_lt_of_le (by decide) hn) rfl (by decide) rfl [.int x] (kX5_wrongWithSheet l g n v x) gX5_write_X5_wrongWithSheet rfl hdX5_wrongWithSheet rfl ⟨rfl, rfl⟩ ⟨Nat.le_of_ble_eq_true rfl, Nat.le_of_ble_eq_true rfl⟩ rfl [] rfl (Nat.le_of_ble_eq_true rfl) dX5_write_2 ⟨Nat.zero_le _, Nat.zero_le _⟩) (fun H locs hP hS => ?_)
  refine lv_istore (lv' := [(4, .int (wwF v x)), (0, .ref (gA g 0)), (1, .int x), (2, .int y), (3, .int z)]) C.1.1 C.1.2.1 dX5_write_5 hl (by decide) rfl (fun ls hl => ?_)
  refine lv_iload C.1.1 C.1.2.1 dX5_write_7 (lv_at hl 0 rfl) ?_
  refine lv_if_eq (tgt := 19) C.1.1 C.1.2.1 dX5_write_9 (by decide) (fun c_1 => ?_) (fun c_1 => ?_)
  · skip
    obtain ⟨jx, hjx, ejx, hwy⟩ := ww_0 hR c_1
    subst ejx
    obtain ⟨q60, ⟨Z, hZ, hZ1, hZ2⟩, q62⟩ := hR.2.2.2.1 jx hjx
    refine lv_iload_n C.1.1 C.1.2.1 dX5_write_19 rfl (lv_at hl 3 rfl) ?_
    refine lv_iconst (v := 0) C.1.1 C.1.2.1 dX5_write_20 rfl ?_
    refine lv_aload_n C.1.1 C.1.2.1 dX5_write_21 rfl (lv_at hl 1 rfl) ?_
    refine r_get C hP 0 5 (Nat.lt_of_lt_of_le (by decide) hn) rfl (by decide) rfl hi5 6 (by decide) (List.mem_of_getElem? (i := 1) rfl) rfl (val := .ref (gA g 43)) rfl dX5_write_22 ?_
    refine lv_iload_n C.1.1 C.1.2.1 dX5_write_25 rfl (lv_at hl 2 rfl) ?_
    refine r_aaldS C hP 43 (Nat.lt_of_lt_of_le (by decide) hn) rfl jx rfl (by omega) dX5_write_26 ?_
    refine r_get C hP (44 + 2 * jx) 1 (by omega) (kd_sh jx (by omega)).1 (by decide) rfl hi1 1 (by decide) (List.mem_of_getElem? (i := 2) rfl) rfl (val := .int (v.1 (44 + 2 * jx) 1)) rfl dX5_write_27 ?_
    refine lv_topE (nI Z) hZ1 ?_
    refine lv_iconst (v := 1) C.1.1 C.1.2.1 dX5_write_30 rfl ?_
    refine lv_isub C.1.1 C.1.2.1 dX5_write_31 ?_
    refine a_B hS (run_S C hP hS hl.1 [.int y, .int 0, .int ((nI Z) - 1)] (kX5_isWithin l g n v y 0 ((nI Z) - 1)) gX5_write_X5_isWithin hdX5_isWithin rfl ⟨rfl, rfl⟩ ⟨Nat.le_of_ble_eq_true rfl, Nat.le_of_ble_eq_true rfl⟩ rfl [] rfl (Nat.le_of_ble_eq_true rfl) dX5_write_32 ⟨Nat.zero_le _, Nat.zero_le _⟩) (fun b_2 H locs hP hS => ?_) (fun b_2 H locs hP hS => ?_)
    · skip
      have kw := (in_sz hZ).mp b_2
      obtain ⟨jy, hjy, rfl⟩ := id kw
      refine lv_if_ne (tgt := 45) C.1.1 C.1.2.1 dX5_write_35 (by decide) (fun _ => ?_) (fun c_3 => absurd c_3 (by decide))
      refine lv_aload_n C.1.1 C.1.2.1 dX5_write_45 rfl (lv_at hl 1 rfl) ?_
      refine r_get C hP 0 5 (Nat.lt_of_lt_of_le (by decide) hn) rfl (by decide) rfl hi5 6 (by decide) (List.mem_of_getElem? (i := 1) rfl) rfl (val := .ref (gA g 43)) rfl dX5_write_46 ?_
      refine lv_iload_n C.1.1 C.1.2.1 dX5_write_49 rfl (lv_at hl 2 rfl) ?_
      refine r_aaldS C hP 43 (Nat.lt_of_lt_of_le (by decide) hn) rfl jx rfl (by omega) dX5_write_50 ?_
      refine lv_iload_n C.1.1 C.1.2.1 dX5_write_51 rfl (lv_at hl 3 rfl) ?_
      refine lv_iload_n C.1.1 C.1.2.1 dX5_write_52 rfl (lv_at hl 4 rfl) ?_
      refine a_G hS (run_V C hP hS hl.1 (44 + 2 * jx) 1 (by omega) (kd_sh jx (by omega)).1 (by decide) rfl [.int (nI jy), .int z] (kX1_put l g n v (44 + 2 * jx) (by omega) (kd_sh jx (by omega)).1 (kd_sh jx (by omega)).2.1 (kd_sh jx (by omega)).2.2 jy (by omega) z) gX5_write_X1_put rfl hdX1_put rfl ⟨rfl, rfl⟩ ⟨Nat.le_of_ble_eq_true rfl, Nat.le_of_ble_eq_true rfl⟩ rfl [] rfl (Nat.le_of_ble_eq_true rfl) dX5_write_53 ⟨Nat.zero_le _, Nat.zero_le _⟩) (fun H locs hP hS => ?_)
      refine lv_iconst (v := 1) C.1.1 C.1.2.1 dX5_write_56 rfl ?_
      exact t_P C rfl hP hS (ps_to (show writeM (up v ((44 + 2 * jx) + 1) jy (cutF (v.1 (44 + 2 * jx) 0) z)) (nI jx) (nI jy) z = (1, up (up v ((44 + 2 * jx) + 1) jy (cutF (v.1 (44 + 2 * jx) 0) z)) 62 (40 * jx + jy) (cutF (v.1 (44 + 2 * jx) 0) z)) from by simp only [writeM, why_cong (v := v) (u := up v ((44 + 2 * jx) + 1) jy (cutF (v.1 (44 + 2 * jx) 0) z)) (nI jx) (upw_ne _ _ (by omega)), hwy, if_pos (show (-1 : Int32) < 0 by decide), show (up v ((44 + 2 * jx) + 1) jy (cutF (v.1 (44 + 2 * jx) 0) z)).1 61 jx = nI Z from (congrFun (upw_ne _ _ (by omega)) _).trans hZ2, tn_nI (show Z < 2 ^ 31 by omega), tn_nI (show jx < 2 ^ 31 by omega), cif_pos kw, show (up v ((44 + 2 * jx) + 1) jy (cutF (v.1 (44 + 2 * jx) 0) z)).1 60 jx = v.1 (44 + 2 * jx) 0 from (congrFun (upw_ne _ _ (by omega)) _).trans q60.symm, tn_nI (show jy < 2 ^ 31 by omega)]) rfl (Rl_write hR hjx (by omega))) (rsc_trans (rsc_rfl v) (rsc_w _ _ (by omega))) dX5_write_57
    · skip
      have b_2 := fun h => b_2 ((in_sz hZ).mpr h)
      refine lv_if_ne (tgt := 45) C.1.1 C.1.2.1 dX5_write_35 (by decide) (fun c_4 => absurd c_4 (by decide)) (fun _ => ?_)
      refine lv_aload_n C.1.1 C.1.2.1 dX5_write_38 rfl (lv_at hl 1 rfl) ?_
      refine lv_ldc (v := (-1000001)) C.1.1 C.1.2.1 C.1.2.2.2.1 (C.1.2.2.2.2 _ (List.mem_of_getElem? (i := 3) rfl)) dX5_write_39 ?_
      refine a_F hS (run_V C hP hS hl.1 0 5 (Nat.lt_of_lt_of_le (by decide) hn) rfl (by decide) rfl [.int (-1000001)] (kX5_finding l g n v 0 (by decide) (-1000001) rfl) gX5_write_X5_finding rfl hdX5_finding rfl ⟨rfl, rfl⟩ ⟨Nat.le_of_ble_eq_true rfl, Nat.le_of_ble_eq_true rfl⟩ rfl [] rfl (Nat.le_of_ble_eq_true rfl) dX5_write_41 ⟨Nat.zero_le _, Nat.zero_le _⟩) (fun H locs hP hS => ?_)
      have e54_5 : (fnC v 0).1 54 = v.1 54 := (upw_ne _ _ (by decide))
      exact t_P C rfl hP hS (ps_fd (f := fun u => writeM u (nI jx) y z) hR (sam_rfl v) (by decide) (by simp only [writeM, nM_of e54_5 hM, e54_5, tn_nI (show jx < 2 ^ 31 by omega), why_cong (v := v) (u := fnC v 0) (nI jx) (upw_ne _ _ (by omega)), hwy, if_pos (show (-1 : Int32) < 0 by decide), show (fnC v 0).1 61 jx = nI Z from (congrFun (upw_ne _ _ (by omega)) _).trans hZ2, tn_nI (show Z < 2 ^ 31 by omega), tn_nI (show jx < 2 ^ 31 by omega), cif_neg b_2]) rfl) (rsc_trans (rsc_rfl v) (rsc_w _ _ (by decide))) dX5_write_44
  · skip
    obtain ⟨jw, hjw, hxw, hwy⟩ := ww_n hR c_1
    refine lv_aload_n C.1.1 C.1.2.1 dX5_write_12 rfl (lv_at hl 1 rfl) ?_
    refine lv_iload C.1.1 C.1.2.1 dX5_write_13 (lv_at hl 0 rfl) ?_
    refine a_F hS (run_V C hP hS hl.1 0 5 (Nat.lt_of_lt_of_le (by decide) hn) rfl (by decide) rfl [.int (wwF v x)] (kX5_finding l g n v jw hjw (wwF v x) hxw) gX5_write_X5_finding rfl hdX5_finding rfl ⟨rfl, rfl⟩ ⟨Nat.le_of_ble_eq_true rfl, Nat.le_of_ble_eq_true rfl⟩ rfl [] rfl (Nat.le_of_ble_eq_true rfl) dX5_write_15 ⟨Nat.zero_le _, Nat.zero_le _⟩) (fun H locs hP hS => ?_)
    exact t_P C rfl hP hS (ps_fd (f := fun u => writeM u x y z) hR (sam_rfl v) hjw (by simp only [writeM, nM_of (show (fnC v jw).1 54 = v.1 54 from (upw_ne _ _ (by omega))) hM, why_cong (v := v) (u := fnC v jw) x (upw_ne _ _ (by omega)), hwy, if_neg (nI_n0 hjw), fdW, tn_nI (show jw < 2 ^ 31 by omega)]) hxw) (rsc_trans (rsc_rfl v) (rsc_w _ _ (by decide))) dX5_write_18

abbrev rmX5_sheet : Room := { frames := 2, cells := 0, slots := 0, locals := 45 }
set_option maxHeartbeats 4000000 in
set_option maxRecDepth 100000 in
theorem kX5_sheet (l : Launch) (g : GG) (n : Nat) (v : SV) (x y z : Int32) (N : Nat) (hR : Rl v N) : Met l yX5_sheet wsX5_sheet rmX5_sheet (PW g n v [.ref (gA g 0), .int x, .int y, .int z]) (QP g n v (fun u => sheetM u x y z)) 0 0 (wA g n) := by
  refine Met.begin RX5 rfl (by decide) rfl (Nat.le_of_ble_eq_true rfl) ?_
  intro p e s m args below meth c ls ha C hP hS hl
  have hn : 64 ≤ n := C.2.1.1.2.1
  have hi1 : ∀ w ∈ u_ws RX1 TX1 3, w ∈ wsX5_sheet := by decide +kernel
  have hi5 : ∀ w ∈ u_ws RX5 TX5 8, w ∈ wsX5_sheet := by decide +kernel
  have hl : lv_has ls 4 [(0, .ref (gA g 0)), (1, .int x), (2, .int y), (3, .int z)] := hl
  have hC := hR.1.1
  have hA := hR.1.2
  have h8 := hC.1
  have hD : okC (v.1 54) N := okC_agr (agr_symm hA) hC
  have hM := okC_M hD
  refine lv_iload_n C.1.1 C.1.2.1 dX5_sheet_0 rfl (lv_at hl 1 rfl) ?_
  refine a_B hS (run_S C hP hS hl.1 [.int x] (kX5_isSheet l g n v x) gX5_sheet_X5_isSheet hdX5_isSheet rfl ⟨rfl, rfl⟩ ⟨Nat.le_of_ble_eq_true rfl, Nat.le_of_ble_eq_true rfl⟩ rfl [] rfl (Nat.le_of_ble_eq_true rfl) dX5_sheet_1 ⟨Nat.zero_le _, Nat.zero_le _⟩) (fun b_1 H locs hP hS => ?_) (fun b_1 H locs hP hS => ?_)
  · skip
    have kb_1 := b_1
    obtain ⟨jx, hjx, rfl⟩ := b_1
    refine lv_if_eq (tgt := 29) C.1.1 C.1.2.1 dX5_sheet_4 (by decide) (fun c_2 => absurd c_2 (by decide)) (fun _ => ?_)
    refine lv_iload_n C.1.1 C.1.2.1 dX5_sheet_7 rfl (lv_at hl 2 rfl) ?_
    refine lv_if_eq (tgt := 36) C.1.1 C.1.2.1 dX5_sheet_8 (by decide) (fun c_3 => ?_) (fun c_3 => ?_)
    · skip
      refine lv_iload_n C.1.1 C.1.2.1 dX5_sheet_36 rfl (lv_at hl 3 rfl) ?_
      refine lv_if_ge (tgt := 47) C.1.1 C.1.2.1 dX5_sheet_37 (by decide) (fun c_4 => ?_) (fun c_4 => ?_)
      · skip
        refine lv_iload_n C.1.1 C.1.2.1 dX5_sheet_47 rfl (lv_at hl 3 rfl) ?_
        refine lv_bipush (v := 40) C.1.1 C.1.2.1 dX5_sheet_48 rfl ?_
        refine lv_icmp_le (tgt := 60) C.1.1 C.1.2.1 dX5_sheet_50 (by decide) (fun c_5 => ?_) (fun c_5 => ?_)
        · skip
          obtain ⟨jz, hjz, rfl⟩ := (in_iffC (K := 40) 41 (by decide) (by decide)).mp ⟨c_4, c_5⟩
          refine lv_aload_n C.1.1 C.1.2.1 dX5_sheet_60 rfl (lv_at hl 0 rfl) ?_
          refine r_get C hP 0 5 (Nat.lt_of_lt_of_le (by decide) hn) rfl (by decide) rfl hi5 6 (by decide) (List.mem_of_getElem? (i := 3) rfl) rfl (val := .ref (gA g 43)) rfl dX5_sheet_61 ?_
          refine lv_iload_n C.1.1 C.1.2.1 dX5_sheet_64 rfl (lv_at hl 1 rfl) ?_
          refine r_aaldS C hP 43 (Nat.lt_of_lt_of_le (by decide) hn) rfl jx rfl (by omega) dX5_sheet_65 ?_
          refine lv_iload_n C.1.1 C.1.2.1 dX5_sheet_66 rfl (lv_at hl 2 rfl) ?_
          refine lv_iload_n C.1.1 C.1.2.1 dX5_sheet_67 rfl (lv_at hl 3 rfl) ?_
          refine a_G hS (run_V C hP hS hl.1 (44 + 2 * jx) 1 (by omega) (kd_sh jx (by omega)).1 (by decide) rfl [.int y, .int (nI jz)] (kX1_makeAnew l g n v (44 + 2 * jx) (by omega) (kd_sh jx (by omega)).1 (kd_sh jx (by omega)).2.1 (kd_sh jx (by omega)).2.2 y (nI jz)) gX5_sheet_X1_makeAnew rfl hdX1_makeAnew rfl ⟨rfl, rfl⟩ ⟨Nat.le_of_ble_eq_true rfl, Nat.le_of_ble_eq_true rfl⟩ rfl [] rfl (Nat.le_of_ble_eq_true rfl) dX5_sheet_68 ⟨Nat.zero_le _, Nat.zero_le _⟩) (fun H locs hP hS => ?_)
          refine lv_aload_n C.1.1 C.1.2.1 dX5_sheet_71 rfl (lv_at hl 0 rfl) ?_
          refine r_get C hP 0 5 (Nat.lt_of_lt_of_le (by decide) hn) rfl (by decide) rfl hi5 6 (by decide) (List.mem_of_getElem? (i := 3) rfl) rfl (val := .ref (gA g 43)) rfl dX5_sheet_72 ?_
          refine lv_iload_n C.1.1 C.1.2.1 dX5_sheet_75 rfl (lv_at hl 1 rfl) ?_
          refine r_aaldS C hP 43 (Nat.lt_of_lt_of_le (by decide) hn) rfl jx rfl (by omega) dX5_sheet_76 ?_
          refine r_get C hP (44 + 2 * jx) 1 (by omega) (kd_sh jx (by omega)).1 (by decide) rfl hi1 1 (by decide) (List.mem_of_getElem? (i := 4) rfl) rfl (val := .int ((mkS v (44 + 2 * jx) y (nI jz)).1 (44 + 2 * jx) 1)) rfl dX5_sheet_77 ?_
          refine lv_topE (if y = 0 then 0 else nI jz) (mk_1 _ _ _ _) ?_
          exact t_P C rfl hP hS (ps_to (show sheetM (mkS v (44 + 2 * jx) y (nI jz)) (nI jx) y (nI jz) = ((if y = 0 then 0 else nI jz), shS (mkS v (44 + 2 * jx) y (nI jz)) jx y (if y = 0 then 0 else nI jz)) from by simp only [sheetM, cif_pos kb_1, if_pos (show y = 0 ∨ y = 8 ∨ y = 16 ∨ y = 32 from Or.inl c_3), if_neg (fun h => fa_lt_nle h c_4), if_neg (fun h => fa_lt_nle h c_5), tn_nI (show jx < 2 ^ 31 by omega)]) rfl (Rl_sheet hR hjx (by omega))) (rsc_trans (rsc_rfl v) (rsc_trans (rsc_w _ _ (by omega)) (rsc_trans (rsc_w _ _ (by omega)) (rsc_w _ _ (by omega))))) dX5_sheet_80
        · skip
          refine lv_aload_n C.1.1 C.1.2.1 dX5_sheet_53 rfl (lv_at hl 0 rfl) ?_
          refine lv_ldc (v := (-1000001)) C.1.1 C.1.2.1 C.1.2.2.2.1 (C.1.2.2.2.2 _ (List.mem_of_getElem? (i := 1) rfl)) dX5_sheet_54 ?_
          refine a_F hS (run_V C hP hS hl.1 0 5 (Nat.lt_of_lt_of_le (by decide) hn) rfl (by decide) rfl [.int (-1000001)] (kX5_finding l g n v 0 (by decide) (-1000001) rfl) gX5_sheet_X5_finding rfl hdX5_finding rfl ⟨rfl, rfl⟩ ⟨Nat.le_of_ble_eq_true rfl, Nat.le_of_ble_eq_true rfl⟩ rfl [] rfl (Nat.le_of_ble_eq_true rfl) dX5_sheet_56 ⟨Nat.zero_le _, Nat.zero_le _⟩) (fun H locs hP hS => ?_)
          have e54_6 : (fnC v 0).1 54 = v.1 54 := (upw_ne _ _ (by decide))
          exact t_P C rfl hP hS (ps_fd (f := fun u => sheetM u (nI jx) y z) hR (sam_rfl v) (by decide) (by simp only [sheetM, nM_of e54_6 hM, e54_6, cif_pos kb_1, tn_nI (show jx < 2 ^ 31 by omega), if_pos (show y = 0 ∨ y = 8 ∨ y = 16 ∨ y = 32 from Or.inl c_3), if_neg (fun h => fa_lt_nle h c_4), if_pos (fa_nle c_5)]) rfl) (rsc_trans (rsc_rfl v) (rsc_w _ _ (by decide))) dX5_sheet_59
      · skip
        refine lv_aload_n C.1.1 C.1.2.1 dX5_sheet_40 rfl (lv_at hl 0 rfl) ?_
        refine lv_ldc (v := (-1000007)) C.1.1 C.1.2.1 C.1.2.2.2.1 (C.1.2.2.2.2 _ (List.mem_of_getElem? (i := 2) rfl)) dX5_sheet_41 ?_
        refine a_F hS (run_V C hP hS hl.1 0 5 (Nat.lt_of_lt_of_le (by decide) hn) rfl (by decide) rfl [.int (-1000007)] (kX5_finding l g n v 6 (by decide) (-1000007) rfl) gX5_sheet_X5_finding rfl hdX5_finding rfl ⟨rfl, rfl⟩ ⟨Nat.le_of_ble_eq_true rfl, Nat.le_of_ble_eq_true rfl⟩ rfl [] rfl (Nat.le_of_ble_eq_true rfl) dX5_sheet_43 ⟨Nat.zero_le _, Nat.zero_le _⟩) (fun H locs hP hS => ?_)
        have e54_7 : (fnC v 6).1 54 = v.1 54 := (upw_ne _ _ (by decide))
        exact t_P C rfl hP hS (ps_fd (f := fun u => sheetM u (nI jx) y z) hR (sam_rfl v) (by decide) (by simp only [sheetM, nM_of e54_7 hM, e54_7, cif_pos kb_1, tn_nI (show jx < 2 ^ 31 by omega), if_pos (show y = 0 ∨ y = 8 ∨ y = 16 ∨ y = 32 from Or.inl c_3), if_pos (fa_nle c_4)]) rfl) (rsc_trans (rsc_rfl v) (rsc_w _ _ (by decide))) dX5_sheet_46
    · skip
      refine lv_iload_n C.1.1 C.1.2.1 dX5_sheet_11 rfl (lv_at hl 2 rfl) ?_
      refine lv_bipush (v := 8) C.1.1 C.1.2.1 dX5_sheet_12 rfl ?_
      refine lv_icmp_eq (tgt := 36) C.1.1 C.1.2.1 dX5_sheet_14 (by decide) (fun c_8 => ?_) (fun c_8 => ?_)
      · skip
        refine lv_iload_n C.1.1 C.1.2.1 dX5_sheet_36 rfl (lv_at hl 3 rfl) ?_
        refine lv_if_ge (tgt := 47) C.1.1 C.1.2.1 dX5_sheet_37 (by decide) (fun c_9 => ?_) (fun c_9 => ?_)
        · skip
          refine lv_iload_n C.1.1 C.1.2.1 dX5_sheet_47 rfl (lv_at hl 3 rfl) ?_
          refine lv_bipush (v := 40) C.1.1 C.1.2.1 dX5_sheet_48 rfl ?_
          refine lv_icmp_le (tgt := 60) C.1.1 C.1.2.1 dX5_sheet_50 (by decide) (fun c_10 => ?_) (fun c_10 => ?_)
          · skip
            obtain ⟨jz, hjz, rfl⟩ := (in_iffC (K := 40) 41 (by decide) (by decide)).mp ⟨c_9, c_10⟩
            refine lv_aload_n C.1.1 C.1.2.1 dX5_sheet_60 rfl (lv_at hl 0 rfl) ?_
            refine r_get C hP 0 5 (Nat.lt_of_lt_of_le (by decide) hn) rfl (by decide) rfl hi5 6 (by decide) (List.mem_of_getElem? (i := 3) rfl) rfl (val := .ref (gA g 43)) rfl dX5_sheet_61 ?_
            refine lv_iload_n C.1.1 C.1.2.1 dX5_sheet_64 rfl (lv_at hl 1 rfl) ?_
            refine r_aaldS C hP 43 (Nat.lt_of_lt_of_le (by decide) hn) rfl jx rfl (by omega) dX5_sheet_65 ?_
            refine lv_iload_n C.1.1 C.1.2.1 dX5_sheet_66 rfl (lv_at hl 2 rfl) ?_
            refine lv_iload_n C.1.1 C.1.2.1 dX5_sheet_67 rfl (lv_at hl 3 rfl) ?_
            refine a_G hS (run_V C hP hS hl.1 (44 + 2 * jx) 1 (by omega) (kd_sh jx (by omega)).1 (by decide) rfl [.int y, .int (nI jz)] (kX1_makeAnew l g n v (44 + 2 * jx) (by omega) (kd_sh jx (by omega)).1 (kd_sh jx (by omega)).2.1 (kd_sh jx (by omega)).2.2 y (nI jz)) gX5_sheet_X1_makeAnew rfl hdX1_makeAnew rfl ⟨rfl, rfl⟩ ⟨Nat.le_of_ble_eq_true rfl, Nat.le_of_ble_eq_true rfl⟩ rfl [] rfl (Nat.le_of_ble_eq_true rfl) dX5_sheet_68 ⟨Nat.zero_le _, Nat.zero_le _⟩) (fun H locs hP hS => ?_)
            refine lv_aload_n C.1.1 C.1.2.1 dX5_sheet_71 rfl (lv_at hl 0 rfl) ?_
            refine r_get C hP 0 5 (Nat.lt_of_lt_of_le (by decide) hn) rfl (by decide) rfl hi5 6 (by decide) (List.mem_of_getElem? (i := 3) rfl) rfl (val := .ref (gA g 43)) rfl dX5_sheet_72 ?_
            refine lv_iload_n C.1.1 C.1.2.1 dX5_sheet_75 rfl (lv_at hl 1 rfl) ?_
            refine r_aaldS C hP 43 (Nat.lt_of_lt_of_le (by decide) hn) rfl jx rfl (by omega) dX5_sheet_76 ?_
            refine r_get C hP (44 + 2 * jx) 1 (by omega) (kd_sh jx (by omega)).1 (by decide) rfl hi1 1 (by decide) (List.mem_of_getElem? (i := 4) rfl) rfl (val := .int ((mkS v (44 + 2 * jx) y (nI jz)).1 (44 + 2 * jx) 1)) rfl dX5_sheet_77 ?_
            refine lv_topE (if y = 0 then 0 else nI jz) (mk_1 _ _ _ _) ?_
            exact t_P C rfl hP hS (ps_to (show sheetM (mkS v (44 + 2 * jx) y (nI jz)) (nI jx) y (nI jz) = ((if y = 0 then 0 else nI jz), shS (mkS v (44 + 2 * jx) y (nI jz)) jx y (if y = 0 then 0 else nI jz)) from by simp only [sheetM, cif_pos kb_1, if_pos (show y = 0 ∨ y = 8 ∨ y = 16 ∨ y = 32 from Or.inr (Or.inl c_8)), if_neg (fun h => fa_lt_nle h c_9), if_neg (fun h => fa_lt_nle h c_10), tn_nI (show jx < 2 ^ 31 by omega)]) rfl (Rl_sheet hR hjx (by omega))) (rsc_trans (rsc_rfl v) (rsc_trans (rsc_w _ _ (by omega)) (rsc_trans (rsc_w _ _ (by omega)) (rsc_w _ _ (by omega))))) dX5_sheet_80
          · skip
            refine lv_aload_n C.1.1 C.1.2.1 dX5_sheet_53 rfl (lv_at hl 0 rfl) ?_
            refine lv_ldc (v := (-1000001)) C.1.1 C.1.2.1 C.1.2.2.2.1 (C.1.2.2.2.2 _ (List.mem_of_getElem? (i := 1) rfl)) dX5_sheet_54 ?_
            refine a_F hS (run_V C hP hS hl.1 0 5 (Nat.lt_of_lt_of_le (by decide) hn) rfl (by decide) rfl [.int (-1000001)] (kX5_finding l g n v 0 (by decide) (-1000001) rfl) gX5_sheet_X5_finding rfl hdX5_finding rfl ⟨rfl, rfl⟩ ⟨Nat.le_of_ble_eq_true rfl, Nat.le_of_ble_eq_true rfl⟩ rfl [] rfl (Nat.le_of_ble_eq_true rfl) dX5_sheet_56 ⟨Nat.zero_le _, Nat.zero_le _⟩) (fun H locs hP hS => ?_)
            have e54_11 : (fnC v 0).1 54 = v.1 54 := (upw_ne _ _ (by decide))
            exact t_P C rfl hP hS (ps_fd (f := fun u => sheetM u (nI jx) y z) hR (sam_rfl v) (by decide) (by simp only [sheetM, nM_of e54_11 hM, e54_11, cif_pos kb_1, tn_nI (show jx < 2 ^ 31 by omega), if_pos (show y = 0 ∨ y = 8 ∨ y = 16 ∨ y = 32 from Or.inr (Or.inl c_8)), if_neg (fun h => fa_lt_nle h c_9), if_pos (fa_nle c_10)]) rfl) (rsc_trans (rsc_rfl v) (rsc_w _ _ (by decide))) dX5_sheet_59
        · skip
          refine lv_aload_n C.1.1 C.1.2.1 dX5_sheet_40 rfl (lv_at hl 0 rfl) ?_
          refine lv_ldc (v := (-1000007)) C.1.1 C.1.2.1 C.1.2.2.2.1 (C.1.2.2.2.2 _ (List.mem_of_getElem? (i := 2) rfl)) dX5_sheet_41 ?_
          refine a_F hS (run_V C hP hS hl.1 0 5 (Nat.lt_of_lt_of_le (by decide) hn) rfl (by decide) rfl [.int (-1000007)] (kX5_finding l g n v 6 (by decide) (-1000007) rfl) gX5_sheet_X5_finding rfl hdX5_finding rfl ⟨rfl, rfl⟩ ⟨Nat.le_of_ble_eq_true rfl, Nat.le_of_ble_eq_true rfl⟩ rfl [] rfl (Nat.le_of_ble_eq_true rfl) dX5_sheet_43 ⟨Nat.zero_le _, Nat.zero_le _⟩) (fun H locs hP hS => ?_)
          have e54_12 : (fnC v 6).1 54 = v.1 54 := (upw_ne _ _ (by decide))
          exact t_P C rfl hP hS (ps_fd (f := fun u => sheetM u (nI jx) y z) hR (sam_rfl v) (by decide) (by simp only [sheetM, nM_of e54_12 hM, e54_12, cif_pos kb_1, tn_nI (show jx < 2 ^ 31 by omega), if_pos (show y = 0 ∨ y = 8 ∨ y = 16 ∨ y = 32 from Or.inr (Or.inl c_8)), if_pos (fa_nle c_9)]) rfl) (rsc_trans (rsc_rfl v) (rsc_w _ _ (by decide))) dX5_sheet_46
      · skip
        refine lv_iload_n C.1.1 C.1.2.1 dX5_sheet_17 rfl (lv_at hl 2 rfl) ?_
        refine lv_bipush (v := 16) C.1.1 C.1.2.1 dX5_sheet_18 rfl ?_
        refine lv_icmp_eq (tgt := 36) C.1.1 C.1.2.1 dX5_sheet_20 (by decide) (fun c_13 => ?_) (fun c_13 => ?_)
        · skip
          refine lv_iload_n C.1.1 C.1.2.1 dX5_sheet_36 rfl (lv_at hl 3 rfl) ?_
          refine lv_if_ge (tgt := 47) C.1.1 C.1.2.1 dX5_sheet_37 (by decide) (fun c_14 => ?_) (fun c_14 => ?_)
          · skip
            refine lv_iload_n C.1.1 C.1.2.1 dX5_sheet_47 rfl (lv_at hl 3 rfl) ?_
            refine lv_bipush (v := 40) C.1.1 C.1.2.1 dX5_sheet_48 rfl ?_
            refine lv_icmp_le (tgt := 60) C.1.1 C.1.2.1 dX5_sheet_50 (by decide) (fun c_15 => ?_) (fun c_15 => ?_)
            · skip
              obtain ⟨jz, hjz, rfl⟩ := (in_iffC (K := 40) 41 (by decide) (by decide)).mp ⟨c_14, c_15⟩
              refine lv_aload_n C.1.1 C.1.2.1 dX5_sheet_60 rfl (lv_at hl 0 rfl) ?_
              refine r_get C hP 0 5 (Nat.lt_of_lt_of_le (by decide) hn) rfl (by decide) rfl hi5 6 (by decide) (List.mem_of_getElem? (i := 3) rfl) rfl (val := .ref (gA g 43)) rfl dX5_sheet_61 ?_
              refine lv_iload_n C.1.1 C.1.2.1 dX5_sheet_64 rfl (lv_at hl 1 rfl) ?_
              refine r_aaldS C hP 43 (Nat.lt_of_lt_of_le (by decide) hn) rfl jx rfl (by omega) dX5_sheet_65 ?_
              refine lv_iload_n C.1.1 C.1.2.1 dX5_sheet_66 rfl (lv_at hl 2 rfl) ?_
              refine lv_iload_n C.1.1 C.1.2.1 dX5_sheet_67 rfl (lv_at hl 3 rfl) ?_
              refine a_G hS (run_V C hP hS hl.1 (44 + 2 * jx) 1 (by omega) (kd_sh jx (by omega)).1 (by decide) rfl [.int y, .int (nI jz)] (kX1_makeAnew l g n v (44 + 2 * jx) (by omega) (kd_sh jx (by omega)).1 (kd_sh jx (by omega)).2.1 (kd_sh jx (by omega)).2.2 y (nI jz)) gX5_sheet_X1_makeAnew rfl hdX1_makeAnew rfl ⟨rfl, rfl⟩ ⟨Nat.le_of_ble_eq_true rfl, Nat.le_of_ble_eq_true rfl⟩ rfl [] rfl (Nat.le_of_ble_eq_true rfl) dX5_sheet_68 ⟨Nat.zero_le _, Nat.zero_le _⟩) (fun H locs hP hS => ?_)
              refine lv_aload_n C.1.1 C.1.2.1 dX5_sheet_71 rfl (lv_at hl 0 rfl) ?_
              refine r_get C hP 0 5 (Nat.lt_of_lt_of_le (by decide) hn) rfl (by decide) rfl hi5 6 (by decide) (List.mem_of_getElem? (i := 3) rfl) rfl (val := .ref (gA g 43)) rfl dX5_sheet_72 ?_
              refine lv_iload_n C.1.1 C.1.2.1 dX5_sheet_75 rfl (lv_at hl 1 rfl) ?_
              refine r_aaldS C hP 43 (Nat.lt_of_lt_of_le (by decide) hn) rfl jx rfl (by omega) dX5_sheet_76 ?_
              refine r_get C hP (44 + 2 * jx) 1 (by omega) (kd_sh jx (by omega)).1 (by decide) rfl hi1 1 (by decide) (List.mem_of_getElem? (i := 4) rfl) rfl (val := .int ((mkS v (44 + 2 * jx) y (nI jz)).1 (44 + 2 * jx) 1)) rfl dX5_sheet_77 ?_
              refine lv_topE (if y = 0 then 0 else nI jz) (mk_1 _ _ _ _) ?_
              exact t_P C rfl hP hS (ps_to (show sheetM (mkS v (44 + 2 * jx) y (nI jz)) (nI jx) y (nI jz) = ((if y = 0 then 0 else nI jz), shS (mkS v (44 + 2 * jx) y (nI jz)) jx y (if y = 0 then 0 else nI jz)) from by simp only [sheetM, cif_pos kb_1, if_pos (show y = 0 ∨ y = 8 ∨ y = 16 ∨ y = 32 from Or.inr (Or.inr (Or.inl c_13))), if_neg (fun h => fa_lt_nle h c_14), if_neg (fun h => fa_lt_nle h c_15), tn_nI (show jx < 2 ^ 31 by omega)]) rfl (Rl_sheet hR hjx (by omega))) (rsc_trans (rsc_rfl v) (rsc_trans (rsc_w _ _ (by omega)) (rsc_trans (rsc_w _ _ (by omega)) (rsc_w _ _ (by omega))))) dX5_sheet_80
            · skip
              refine lv_aload_n C.1.1 C.1.2.1 dX5_sheet_53 rfl (lv_at hl 0 rfl) ?_
              refine lv_ldc (v := (-1000001)) C.1.1 C.1.2.1 C.1.2.2.2.1 (C.1.2.2.2.2 _ (List.mem_of_getElem? (i := 1) rfl)) dX5_sheet_54 ?_
              refine a_F hS (run_V C hP hS hl.1 0 5 (Nat.lt_of_lt_of_le (by decide) hn) rfl (by decide) rfl [.int (-1000001)] (kX5_finding l g n v 0 (by decide) (-1000001) rfl) gX5_sheet_X5_finding rfl hdX5_finding rfl ⟨rfl, rfl⟩ ⟨Nat.le_of_ble_eq_true rfl, Nat.le_of_ble_eq_true rfl⟩ rfl [] rfl (Nat.le_of_ble_eq_true rfl) dX5_sheet_56 ⟨Nat.zero_le _, Nat.zero_le _⟩) (fun H locs hP hS => ?_)
              have e54_16 : (fnC v 0).1 54 = v.1 54 := (upw_ne _ _ (by decide))
              exact t_P C rfl hP hS (ps_fd (f := fun u => sheetM u (nI jx) y z) hR (sam_rfl v) (by decide) (by simp only [sheetM, nM_of e54_16 hM, e54_16, cif_pos kb_1, tn_nI (show jx < 2 ^ 31 by omega), if_pos (show y = 0 ∨ y = 8 ∨ y = 16 ∨ y = 32 from Or.inr (Or.inr (Or.inl c_13))), if_neg (fun h => fa_lt_nle h c_14), if_pos (fa_nle c_15)]) rfl) (rsc_trans (rsc_rfl v) (rsc_w _ _ (by decide))) dX5_sheet_59
          · skip
            refine lv_aload_n C.1.1 C.1.2.1 dX5_sheet_40 rfl (lv_at hl 0 rfl) ?_
            refine lv_ldc (v := (-1000007)) C.1.1 C.1.2.1 C.1.2.2.2.1 (C.1.2.2.2.2 _ (List.mem_of_getElem? (i := 2) rfl)) dX5_sheet_41 ?_
            refine a_F hS (run_V C hP hS hl.1 0 5 (Nat.lt_of_lt_of_le (by decide) hn) rfl (by decide) rfl [.int (-1000007)] (kX5_finding l g n v 6 (by decide) (-1000007) rfl) gX5_sheet_X5_finding rfl hdX5_finding rfl ⟨rfl, rfl⟩ ⟨Nat.le_of_ble_eq_true rfl, Nat.le_of_ble_eq_true rfl⟩ rfl [] rfl (Nat.le_of_ble_eq_true rfl) dX5_sheet_43 ⟨Nat.zero_le _, Nat.zero_le _⟩) (fun H locs hP hS => ?_)
            have e54_17 : (fnC v 6).1 54 = v.1 54 := (upw_ne _ _ (by decide))
            exact t_P C rfl hP hS (ps_fd (f := fun u => sheetM u (nI jx) y z) hR (sam_rfl v) (by decide) (by simp only [sheetM, nM_of e54_17 hM, e54_17, cif_pos kb_1, tn_nI (show jx < 2 ^ 31 by omega), if_pos (show y = 0 ∨ y = 8 ∨ y = 16 ∨ y = 32 from Or.inr (Or.inr (Or.inl c_13))), if_pos (fa_nle c_14)]) rfl) (rsc_trans (rsc_rfl v) (rsc_w _ _ (by decide))) dX5_sheet_46
        · skip
          refine lv_iload_n C.1.1 C.1.2.1 dX5_sheet_23 rfl (lv_at hl 2 rfl) ?_
          refine lv_bipush (v := 32) C.1.1 C.1.2.1 dX5_sheet_24 rfl ?_
          refine lv_icmp_eq (tgt := 36) C.1.1 C.1.2.1 dX5_sheet_26 (by decide) (fun c_18 => ?_) (fun c_18 => ?_)
          · skip
            refine lv_iload_n C.1.1 C.1.2.1 dX5_sheet_36 rfl (lv_at hl 3 rfl) ?_
            refine lv_if_ge (tgt := 47) C.1.1 C.1.2.1 dX5_sheet_37 (by decide) (fun c_19 => ?_) (fun c_19 => ?_)
            · skip
              refine lv_iload_n C.1.1 C.1.2.1 dX5_sheet_47 rfl (lv_at hl 3 rfl) ?_
              refine lv_bipush (v := 40) C.1.1 C.1.2.1 dX5_sheet_48 rfl ?_
              refine lv_icmp_le (tgt := 60) C.1.1 C.1.2.1 dX5_sheet_50 (by decide) (fun c_20 => ?_) (fun c_20 => ?_)
              · skip
                obtain ⟨jz, hjz, rfl⟩ := (in_iffC (K := 40) 41 (by decide) (by decide)).mp ⟨c_19, c_20⟩
                refine lv_aload_n C.1.1 C.1.2.1 dX5_sheet_60 rfl (lv_at hl 0 rfl) ?_
                refine r_get C hP 0 5 (Nat.lt_of_lt_of_le (by decide) hn) rfl (by decide) rfl hi5 6 (by decide) (List.mem_of_getElem? (i := 3) rfl) rfl (val := .ref (gA g 43)) rfl dX5_sheet_61 ?_
                refine lv_iload_n C.1.1 C.1.2.1 dX5_sheet_64 rfl (lv_at hl 1 rfl) ?_
                refine r_aaldS C hP 43 (Nat.lt_of_lt_of_le (by decide) hn) rfl jx rfl (by omega) dX5_sheet_65 ?_
                refine lv_iload_n C.1.1 C.1.2.1 dX5_sheet_66 rfl (lv_at hl 2 rfl) ?_
                refine lv_iload_n C.1.1 C.1.2.1 dX5_sheet_67 rfl (lv_at hl 3 rfl) ?_
                refine a_G hS (run_V C hP hS hl.1 (44 + 2 * jx) 1 (by omega) (kd_sh jx (by omega)).1 (by decide) rfl [.int y, .int (nI jz)] (kX1_makeAnew l g n v (44 + 2 * jx) (by omega) (kd_sh jx (by omega)).1 (kd_sh jx (by omega)).2.1 (kd_sh jx (by omega)).2.2 y (nI jz)) gX5_sheet_X1_makeAnew rfl hdX1_makeAnew rfl ⟨rfl, rfl⟩ ⟨Nat.le_of_ble_eq_true rfl, Nat.le_of_ble_eq_true rfl⟩ rfl [] rfl (Nat.le_of_ble_eq_true rfl) dX5_sheet_68 ⟨Nat.zero_le _, Nat.zero_le _⟩) (fun H locs hP hS => ?_)
                refine lv_aload_n C.1.1 C.1.2.1 dX5_sheet_71 rfl (lv_at hl 0 rfl) ?_
                refine r_get C hP 0 5 (Nat.lt_of_lt_of_le (by decide) hn) rfl (by decide) rfl hi5 6 (by decide) (List.mem_of_getElem? (i := 3) rfl) rfl (val := .ref (gA g 43)) rfl dX5_sheet_72 ?_
                refine lv_iload_n C.1.1 C.1.2.1 dX5_sheet_75 rfl (lv_at hl 1 rfl) ?_
                refine r_aaldS C hP 43 (Nat.lt_of_lt_of_le (by decide) hn) rfl jx rfl (by omega) dX5_sheet_76 ?_
                refine r_get C hP (44 + 2 * jx) 1 (by omega) (kd_sh jx (by omega)).1 (by decide) rfl hi1 1 (by decide) (List.mem_of_getElem? (i := 4) rfl) rfl (val := .int ((mkS v (44 + 2 * jx) y (nI jz)).1 (44 + 2 * jx) 1)) rfl dX5_sheet_77 ?_
                refine lv_topE (if y = 0 then 0 else nI jz) (mk_1 _ _ _ _) ?_
                exact t_P C rfl hP hS (ps_to (show sheetM (mkS v (44 + 2 * jx) y (nI jz)) (nI jx) y (nI jz) = ((if y = 0 then 0 else nI jz), shS (mkS v (44 + 2 * jx) y (nI jz)) jx y (if y = 0 then 0 else nI jz)) from by simp only [sheetM, cif_pos kb_1, if_pos (show y = 0 ∨ y = 8 ∨ y = 16 ∨ y = 32 from Or.inr (Or.inr (Or.inr (c_18)))), if_neg (fun h => fa_lt_nle h c_19), if_neg (fun h => fa_lt_nle h c_20), tn_nI (show jx < 2 ^ 31 by omega)]) rfl (Rl_sheet hR hjx (by omega))) (rsc_trans (rsc_rfl v) (rsc_trans (rsc_w _ _ (by omega)) (rsc_trans (rsc_w _ _ (by omega)) (rsc_w _ _ (by omega))))) dX5_sheet_80
              · skip
                refine lv_aload_n C.1.1 C.1.2.1 dX5_sheet_53 rfl (lv_at hl 0 rfl) ?_
                refine lv_ldc (v := (-1000001)) C.1.1 C.1.2.1 C.1.2.2.2.1 (C.1.2.2.2.2 _ (List.mem_of_getElem? (i := 1) rfl)) dX5_sheet_54 ?_
                refine a_F hS (run_V C hP hS hl.1 0 5 (Nat.lt_of_lt_of_le (by decide) hn) rfl (by decide) rfl [.int (-1000001)] (kX5_finding l g n v 0 (by decide) (-1000001) rfl) gX5_sheet_X5_finding rfl hdX5_finding rfl ⟨rfl, rfl⟩ ⟨Nat.le_of_ble_eq_true rfl, Nat.le_of_ble_eq_true rfl⟩ rfl [] rfl (Nat.le_of_ble_eq_true rfl) dX5_sheet_56 ⟨Nat.zero_le _, Nat.zero_le _⟩) (fun H locs hP hS => ?_)
                have e54_21 : (fnC v 0).1 54 = v.1 54 := (upw_ne _ _ (by decide))
                exact t_P C rfl hP hS (ps_fd (f := fun u => sheetM u (nI jx) y z) hR (sam_rfl v) (by decide) (by simp only [sheetM, nM_of e54_21 hM, e54_21, cif_pos kb_1, tn_nI (show jx < 2 ^ 31 by omega), if_pos (show y = 0 ∨ y = 8 ∨ y = 16 ∨ y = 32 from Or.inr (Or.inr (Or.inr (c_18)))), if_neg (fun h => fa_lt_nle h c_19), if_pos (fa_nle c_20)]) rfl) (rsc_trans (rsc_rfl v) (rsc_w _ _ (by decide))) dX5_sheet_59
            · skip
              refine lv_aload_n C.1.1 C.1.2.1 dX5_sheet_40 rfl (lv_at hl 0 rfl) ?_
              refine lv_ldc (v := (-1000007)) C.1.1 C.1.2.1 C.1.2.2.2.1 (C.1.2.2.2.2 _ (List.mem_of_getElem? (i := 2) rfl)) dX5_sheet_41 ?_
              refine a_F hS (run_V C hP hS hl.1 0 5 (Nat.lt_of_lt_of_le (by decide) hn) rfl (by decide) rfl [.int (-1000007)] (kX5_finding l g n v 6 (by decide) (-1000007) rfl) gX5_sheet_X5_finding rfl hdX5_finding rfl ⟨rfl, rfl⟩ ⟨Nat.le_of_ble_eq_true rfl, Nat.le_of_ble_eq_true rfl⟩ rfl [] rfl (Nat.le_of_ble_eq_true rfl) dX5_sheet_43 ⟨Nat.zero_le _, Nat.zero_le _⟩) (fun H locs hP hS => ?_)
              have e54_22 : (fnC v 6).1 54 = v.1 54 := (upw_ne _ _ (by decide))
              exact t_P C rfl hP hS (ps_fd (f := fun u => sheetM u (nI jx) y z) hR (sam_rfl v) (by decide) (by simp only [sheetM, nM_of e54_22 hM, e54_22, cif_pos kb_1, tn_nI (show jx < 2 ^ 31 by omega), if_pos (show y = 0 ∨ y = 8 ∨ y = 16 ∨ y = 32 from Or.inr (Or.inr (Or.inr (c_18)))), if_pos (fa_nle c_19)]) rfl) (rsc_trans (rsc_rfl v) (rsc_w _ _ (by decide))) dX5_sheet_46
          · skip
            refine lv_aload_n C.1.1 C.1.2.1 dX5_sheet_29 rfl (lv_at hl 0 rfl) ?_
            refine lv_ldc (v := (-1000001)) C.1.1 C.1.2.1 C.1.2.2.2.1 (C.1.2.2.2.2 _ (List.mem_of_getElem? (i := 1) rfl)) dX5_sheet_30 ?_
            refine a_F hS (run_V C hP hS hl.1 0 5 (Nat.lt_of_lt_of_le (by decide) hn) rfl (by decide) rfl [.int (-1000001)] (kX5_finding l g n v 0 (by decide) (-1000001) rfl) gX5_sheet_X5_finding rfl hdX5_finding rfl ⟨rfl, rfl⟩ ⟨Nat.le_of_ble_eq_true rfl, Nat.le_of_ble_eq_true rfl⟩ rfl [] rfl (Nat.le_of_ble_eq_true rfl) dX5_sheet_32 ⟨Nat.zero_le _, Nat.zero_le _⟩) (fun H locs hP hS => ?_)
            have e54_23 : (fnC v 0).1 54 = v.1 54 := (upw_ne _ _ (by decide))
            exact t_P C rfl hP hS (ps_fd (f := fun u => sheetM u (nI jx) y z) hR (sam_rfl v) (by decide) (by simp only [sheetM, nM_of e54_23 hM, e54_23, cif_pos kb_1, tn_nI (show jx < 2 ^ 31 by omega), if_neg (show ¬ (y = 0 ∨ y = 8 ∨ y = 16 ∨ y = 32) from fun h => h.elim c_3 (fun h => h.elim c_8 (fun h => h.elim c_13 c_18)))]) rfl) (rsc_trans (rsc_rfl v) (rsc_w _ _ (by decide))) dX5_sheet_35
  · skip
    refine lv_if_eq (tgt := 29) C.1.1 C.1.2.1 dX5_sheet_4 (by decide) (fun _ => ?_) (fun c_24 => absurd c_24 (by decide))
    refine lv_aload_n C.1.1 C.1.2.1 dX5_sheet_29 rfl (lv_at hl 0 rfl) ?_
    refine lv_ldc (v := (-1000001)) C.1.1 C.1.2.1 C.1.2.2.2.1 (C.1.2.2.2.2 _ (List.mem_of_getElem? (i := 1) rfl)) dX5_sheet_30 ?_
    refine a_F hS (run_V C hP hS hl.1 0 5 (Nat.lt_of_lt_of_le (by decide) hn) rfl (by decide) rfl [.int (-1000001)] (kX5_finding l g n v 0 (by decide) (-1000001) rfl) gX5_sheet_X5_finding rfl hdX5_finding rfl ⟨rfl, rfl⟩ ⟨Nat.le_of_ble_eq_true rfl, Nat.le_of_ble_eq_true rfl⟩ rfl [] rfl (Nat.le_of_ble_eq_true rfl) dX5_sheet_32 ⟨Nat.zero_le _, Nat.zero_le _⟩) (fun H locs hP hS => ?_)
    have e54_25 : (fnC v 0).1 54 = v.1 54 := (upw_ne _ _ (by decide))
    exact t_P C rfl hP hS (ps_fd (f := fun u => sheetM u x y z) hR (sam_rfl v) (by decide) (by simp only [sheetM, nM_of e54_25 hM, e54_25, cif_neg b_1]) rfl) (rsc_trans (rsc_rfl v) (rsc_w _ _ (by decide))) dX5_sheet_35

abbrev rmX5_load : Room := { frames := 3, cells := 0, slots := 0, locals := 63 }
set_option maxHeartbeats 4000000 in
set_option maxRecDepth 100000 in
theorem kX5_load (l : Launch) (g : GG) (n : Nat) (v : SV) (x : Int32) (N : Nat) (hR : Rl v N) : Met l yX5_load wsX5_load rmX5_load (PW g n v [.ref (gA g 0), .int x]) (QP g n v (fun u => loadM u x)) 0 0 (wA g n) := by
  refine Met.begin RX5 rfl (by decide) rfl (Nat.le_of_ble_eq_true rfl) ?_
  intro p e s m args below meth c ls ha C hP hS hl
  have hn : 64 ≤ n := C.2.1.1.2.1
  have hi0 : ∀ w ∈ u_ws RX0 TX0 6, w ∈ wsX5_load := by decide +kernel
  have hi1 : ∀ w ∈ u_ws RX1 TX1 3, w ∈ wsX5_load := by decide +kernel
  have hi2 : ∀ w ∈ u_ws RX2 TX2 11, w ∈ wsX5_load := by decide +kernel
  have hi5 : ∀ w ∈ u_ws RX5 TX5 8, w ∈ wsX5_load := by decide +kernel
  have hl : lv_has ls 5 [(0, .ref (gA g 0)), (1, .int x)] := hl
  have hC := hR.1.1
  have hA := hR.1.2
  have h8 := hC.1
  have hD : okC (v.1 54) N := okC_agr (agr_symm hA) hC
  have hM := okC_M hD
  refine lv_aload_n C.1.1 C.1.2.1 dX5_load_0 rfl (lv_at hl 0 rfl) ?_
  refine lv_iload_n C.1.1 C.1.2.1 dX5_load_1 rfl (lv_at hl 1 rfl) ?_
  refine a_F hS (run_V C hP hS hl.1 0 5 (Nat.lt_of_lt_of_le (by decide) hn) rfl (by decide) rfl [.int x] (kX5_wrongWithSheet l g n v x) gX5_load_X5_wrongWithSheet rfl hdX5_wrongWithSheet rfl ⟨rfl, rfl⟩ ⟨Nat.le_of_ble_eq_true rfl, Nat.le_of_ble_eq_true rfl⟩ rfl [] rfl (Nat.le_of_ble_eq_true rfl) dX5_load_2 ⟨Nat.zero_le _, Nat.zero_le _⟩) (fun H locs hP hS => ?_)
  refine lv_istore_n (lv' := [(2, .int (wwF v x)), (0, .ref (gA g 0)), (1, .int x)]) C.1.1 C.1.2.1 dX5_load_5 rfl hl (by decide) rfl (fun ls hl => ?_)
  refine lv_iload_n C.1.1 C.1.2.1 dX5_load_6 rfl (lv_at hl 0 rfl) ?_
  refine lv_if_eq (tgt := 16) C.1.1 C.1.2.1 dX5_load_7 (by decide) (fun c_1 => ?_) (fun c_1 => ?_)
  · skip
    obtain ⟨jx, hjx, ejx, hwy⟩ := ww_0 hR c_1
    subst ejx
    obtain ⟨q60, ⟨Z, hZ, hZ1, hZ2⟩, q62⟩ := hR.2.2.2.1 jx hjx
    refine lv_aload_n C.1.1 C.1.2.1 dX5_load_16 rfl (lv_at hl 1 rfl) ?_
    refine r_get C hP 0 5 (Nat.lt_of_lt_of_le (by decide) hn) rfl (by decide) rfl hi5 6 (by decide) (List.mem_of_getElem? (i := 1) rfl) rfl (val := .ref (gA g 43)) rfl dX5_load_17 ?_
    refine lv_iload_n C.1.1 C.1.2.1 dX5_load_20 rfl (lv_at hl 2 rfl) ?_
    refine r_aaldS C hP 43 (Nat.lt_of_lt_of_le (by decide) hn) rfl jx rfl (by omega) dX5_load_21 ?_
    refine lv_astore_n (lv' := [(3, .ref (gA g (44 + 2 * jx))), (2, .int (wwF v (nI jx))), (0, .ref (gA g 0)), (1, .int (nI jx))]) C.1.1 C.1.2.1 dX5_load_22 rfl hl (by decide) rfl (fun ls hl => ?_)
    refine lv_iconst (v := 0) C.1.1 C.1.2.1 dX5_load_23 rfl ?_
    refine lv_istore (lv' := [(4, .int 0), (3, .ref (gA g (44 + 2 * jx))), (2, .int (wwF v (nI jx))), (0, .ref (gA g 0)), (1, .int (nI jx))]) C.1.1 C.1.2.1 dX5_load_24 hl (by decide) rfl (fun ls hl => ?_)
    have lp_26 : ∀ (k_26 i : Nat), i ≤ Z → Z + 1 ≤ i + k_26 → ∀ (H : Heap) (locs : List Loc) (ls : Array Slot), (∀ t, t < i → ¬ LdP v N jx t) → (i ≤ N) → va_P g.1 vwCl (wl g n (stW v 1 (ldM (stR v 1) (v.1 62) jx i))) H → va_S (wA g n) s.heap H locs → lv_has ls 5 [(0, .ref (gA g 0)), (1, .int (nI jx)), (2, .int (wwF v (nI jx))), (3, .ref (gA g (44 + 2 * jx))), (4, .int (nI i))] → W p l e rmX5_load s m args below meth c H locs 0 0 (MQ below (QP g n v (fun u => loadM u (nI jx))) args s 0 0 (wA g n)) (F0 m 26 ls []) := by
      clear hP hS hl
      intro k_26
      induction k_26 with
      | zero => exact fun i h1 h2 => absurd h2 (by omega)
      | succ k_26 ih_26 =>
        intro i hi_26 hk_26 H locs ls hno hiN8 hP hS hl
        refine lv_iload C.1.1 C.1.2.1 dX5_load_26 (lv_at hl 4 rfl) ?_
        refine lv_aload_n C.1.1 C.1.2.1 dX5_load_28 rfl (lv_at hl 3 rfl) ?_
        refine r_get C hP (44 + 2 * jx) 1 (by omega) (kd_sh jx (by omega)).1 (by decide) rfl hi1 1 (by decide) (List.mem_of_getElem? (i := 2) rfl) rfl (val := .int ((stW v 1 (ldM (stR v 1) (v.1 62) jx i)).1 (44 + 2 * jx) 1)) rfl dX5_load_29 ?_
        refine lv_topE (nI Z) ((congrFun (st_far (by omega)) _).trans hZ1) ?_
        refine lv_icmp_ge (tgt := 90) C.1.1 C.1.2.1 dX5_load_32 (by decide) (fun c_2 => ?_) (fun c_2 => ?_)
        · rw [show (nI Z ≤ nI i) = (Z ≤ i) from propext (nI_leI (a := Z) (b := i) (by omega) (by omega))] at c_2
          refine lv_iload C.1.1 C.1.2.1 dX5_load_90 (lv_at hl 4 rfl) ?_
          have el : lk (LdP v N jx) Z 0 = i := by rw [lk_no Z 0 (fun t _ ht => hno t (by omega))]; omega
          exact t_P C rfl hP hS (ps_to (show loadM (stW v 1 (ldM (stR v 1) (v.1 62) jx i)) (nI jx) = (nI i, upw (stW v 1 (ldM (stR v 1) (v.1 62) jx i)) 54 (ldM (v.1 54) (v.1 62) jx i)) from by simp only [loadM, why_cong (v := v) (u := stW v 1 (ldM (stR v 1) (v.1 62) jx i)) (nI jx) (st_far (by decide)), hwy, if_pos (show (-1 : Int32) < 0 by decide), show (stW v 1 (ldM (stR v 1) (v.1 62) jx i)).1 61 jx = nI Z from (congrFun (st_far (by decide)) _).trans hZ2, tn_nI (show Z < 2 ^ 31 by omega), tn_nI (show jx < 2 ^ 31 by omega), nM_of (show (stW v 1 (ldM (stR v 1) (v.1 62) jx i)).1 54 = v.1 54 from st_far (by decide)) hM, show (stW v 1 (ldM (stR v 1) (v.1 62) jx i)).1 62 = v.1 62 from st_far (by decide), show (stW v 1 (ldM (stR v 1) (v.1 62) jx i)).1 54 = v.1 54 from st_far (by decide)]; rw [show lk (fun t => ¬ (t < N ∧ ∃ j : Nat, j < 4096 ∧ v.1 62 (40 * jx + t) = nI j)) Z 0 = i from el]) rfl (Rl_row hR (okC_ld hC i (by omega) (fun t ht => (Classical.not_not.mp (hno t ht)).2)) (agr_ld hA i))) (rsc_trans (rsc_rfl v) (rsc_st _ _ (by decide))) dX5_load_92
        · rw [show (nI Z ≤ nI i) = (Z ≤ i) from propext (nI_leI (a := Z) (b := i) (by omega) (by omega))] at c_2
          refine lv_aload_n C.1.1 C.1.2.1 dX5_load_35 rfl (lv_at hl 0 rfl) ?_
          refine r_get C hP 0 5 (Nat.lt_of_lt_of_le (by decide) hn) rfl (by decide) rfl hi5 0 (by decide) (List.mem_of_getElem? (i := 3) rfl) rfl (val := .ref (gA g 1)) rfl dX5_load_36 ?_
          refine lv_iload C.1.1 C.1.2.1 dX5_load_39 (lv_at hl 4 rfl) ?_
          refine a_B hS (run_V C hP hS hl.1 1 2 (Nat.lt_of_lt_of_le (by decide) hn) rfl (by decide) rfl [.int (nI i)] (kX2_has l g n (stW v 1 (ldM (stR v 1) (v.1 62) jx i)) (nI i) v 1 (ldM (stR v 1) (v.1 62) jx i) N (Or.inl rfl) rfl (okC_ld hC i (by omega) (fun t ht => (Classical.not_not.mp (hno t ht)).2))) gX5_load_X2_has rfl hdX2_has rfl ⟨rfl, rfl⟩ ⟨Nat.le_of_ble_eq_true rfl, Nat.le_of_ble_eq_true rfl⟩ rfl [] rfl (Nat.le_of_ble_eq_true rfl) dX5_load_41 ⟨Nat.zero_le _, Nat.zero_le _⟩) (fun b_3 H locs hP hS => ?_) (fun b_3 H locs hP hS => ?_)
          · skip
            have hiN : i < N := by obtain ⟨j, hj, e⟩ := b_3; have := (nI_eq (by omega) (by omega)).mp e; omega
            refine lv_if_eq (tgt := 90) C.1.1 C.1.2.1 dX5_load_44 (by decide) (fun c_4 => absurd c_4 (by decide)) (fun _ => ?_)
            refine lv_aload_n C.1.1 C.1.2.1 dX5_load_47 rfl (lv_at hl 3 rfl) ?_
            refine r_get C hP (44 + 2 * jx) 1 (by omega) (kd_sh jx (by omega)).1 (by decide) rfl hi1 2 (by decide) (List.mem_of_getElem? (i := 4) rfl) rfl (val := .ref (gA g ((44 + 2 * jx) + 1))) rfl dX5_load_48 ?_
            refine lv_iload C.1.1 C.1.2.1 dX5_load_51 (lv_at hl 4 rfl) ?_
            refine r_iald C hP ((44 + 2 * jx) + 1) (by omega) (kd_sh jx (by omega)).2.1 i rfl (N := 40) (kd_sh jx (by omega)).2.2 (by decide) (by omega) dX5_load_53 ?_
            refine lv_topE (v.1 62 (40 * jx + i)) ((congrFun (st_far (by omega)) _).trans (q62 i (by omega))) ?_
            refine lv_iconst (v := 0) C.1.1 C.1.2.1 dX5_load_54 rfl ?_
            refine lv_sipush (v := 4095) C.1.1 C.1.2.1 dX5_load_55 rfl ?_
            refine a_B hS (run_S C hP hS hl.1 [.int (v.1 62 (40 * jx + i)), .int 0, .int 4095] (kX5_isWithin l g n (stW v 1 (ldM (stR v 1) (v.1 62) jx i)) (v.1 62 (40 * jx + i)) 0 4095) gX5_load_X5_isWithin hdX5_isWithin rfl ⟨rfl, rfl⟩ ⟨Nat.le_of_ble_eq_true rfl, Nat.le_of_ble_eq_true rfl⟩ rfl [] rfl (Nat.le_of_ble_eq_true rfl) dX5_load_58 ⟨Nat.zero_le _, Nat.zero_le _⟩) (fun b_5 H locs hP hS => ?_) (fun b_5 H locs hP hS => ?_)
            · skip
              have hin := (in_iffC (K := 4095) 4096 (by decide) (by decide)).mp b_5
              refine lv_if_eq (tgt := 90) C.1.1 C.1.2.1 dX5_load_61 (by decide) (fun c_6 => absurd c_6 (by decide)) (fun _ => ?_)
              refine lv_aload_n C.1.1 C.1.2.1 dX5_load_64 rfl (lv_at hl 0 rfl) ?_
              refine r_get C hP 0 5 (Nat.lt_of_lt_of_le (by decide) hn) rfl (by decide) rfl hi5 0 (by decide) (List.mem_of_getElem? (i := 3) rfl) rfl (val := .ref (gA g 1)) rfl dX5_load_65 ?_
              refine r_get C hP 1 2 (Nat.lt_of_lt_of_le (by decide) hn) rfl (by decide) rfl hi2 9 (by decide) (List.mem_of_getElem? (i := 5) rfl) rfl (val := .ref (gA g 4)) rfl dX5_load_68 ?_
              refine lv_iload C.1.1 C.1.2.1 dX5_load_71 (lv_at hl 4 rfl) ?_
              refine r_aald C hP 4 (Nat.lt_of_lt_of_le (by decide) hn) rfl i rfl (by omega) dX5_load_73 ?_
              refine lv_aload_n C.1.1 C.1.2.1 dX5_load_74 rfl (lv_at hl 3 rfl) ?_
              refine r_get C hP (44 + 2 * jx) 1 (by omega) (kd_sh jx (by omega)).1 (by decide) rfl hi1 2 (by decide) (List.mem_of_getElem? (i := 4) rfl) rfl (val := .ref (gA g ((44 + 2 * jx) + 1))) rfl dX5_load_75 ?_
              refine lv_iload C.1.1 C.1.2.1 dX5_load_78 (lv_at hl 4 rfl) ?_
              refine r_iald C hP ((44 + 2 * jx) + 1) (by omega) (kd_sh jx (by omega)).2.1 i rfl (N := 40) (kd_sh jx (by omega)).2.2 (by decide) (by omega) dX5_load_80 ?_
              refine lv_topE (v.1 62 (40 * jx + i)) ((congrFun (st_far (by omega)) _).trans (q62 i (by omega))) ?_
              refine r_put C hP hS (1 + 5 + i) 0 (by omega) (kd_stR 1 (Or.inl rfl) i (by omega)) (by decide) rfl hi0 tyX0 tyX0_ok nmX0 2 (by decide) (List.mem_of_getElem? (i := 6) rfl) rfl rfl rfl rfl rfl (Nat.le_of_ble_eq_true rfl) dX5_load_81 (fun H locs hP hS => ?_)
              rw [show up (stW v 1 (ldM (stR v 1) (v.1 62) jx i)) (1 + 5 + i) 2 (v.1 62 (40 * jx + i)) = stW v 1 (upd (ldM (stR v 1) (v.1 62) jx i) (25 + 8 * 2 + i) (v.1 62 (40 * jx + i))) from st_up (i := 25 + 8 * 2 + i) (sl_5 (r := i) (w := 2) (by omega) (by decide)) (by omega)] at hP
              refine lv_iinc (v := nI (i + 1)) (lv' := [(4, .int (nI (i + 1))), (0, .ref (gA g 0)), (1, .int (nI jx)), (2, .int (wwF v (nI jx))), (3, .ref (gA g (44 + 2 * jx)))]) C.1.1 C.1.2.1 dX5_load_84 hl (k := 4) rfl (nI_1 i) (by decide) rfl (fun ls hl => ?_)
              refine lv_goto (tgt := 26) C.1.1 C.1.2.1 dX5_load_87 (by decide) ?_
              exact ih_26 (i + 1) (by omega) (by omega) _ _ _ (fun t ht => if h9 : t < i then hno t h9 else by rw [show t = i by omega]; exact fun q => q ⟨hiN, hin⟩) (by omega) hP hS (lv_sub hl [1, 2, 3, 4, 0] rfl)
            · skip
              refine lv_if_eq (tgt := 90) C.1.1 C.1.2.1 dX5_load_61 (by decide) (fun _ => ?_) (fun c_8 => absurd c_8 (by decide))
              refine lv_iload C.1.1 C.1.2.1 dX5_load_90 (lv_at hl 4 rfl) ?_
              have el : lk (LdP v N jx) Z 0 = i := lk_yes Z 0 i (Nat.zero_le _) (by omega) (fun t _ ht => hno t ht) (fun h => b_5 ((in_iffC (K := 4095) 4096 (by decide) (by decide)).mpr h.2))
              exact t_P C rfl hP hS (ps_to (show loadM (stW v 1 (ldM (stR v 1) (v.1 62) jx i)) (nI jx) = (nI i, upw (stW v 1 (ldM (stR v 1) (v.1 62) jx i)) 54 (ldM (v.1 54) (v.1 62) jx i)) from by simp only [loadM, why_cong (v := v) (u := stW v 1 (ldM (stR v 1) (v.1 62) jx i)) (nI jx) (st_far (by decide)), hwy, if_pos (show (-1 : Int32) < 0 by decide), show (stW v 1 (ldM (stR v 1) (v.1 62) jx i)).1 61 jx = nI Z from (congrFun (st_far (by decide)) _).trans hZ2, tn_nI (show Z < 2 ^ 31 by omega), tn_nI (show jx < 2 ^ 31 by omega), nM_of (show (stW v 1 (ldM (stR v 1) (v.1 62) jx i)).1 54 = v.1 54 from st_far (by decide)) hM, show (stW v 1 (ldM (stR v 1) (v.1 62) jx i)).1 62 = v.1 62 from st_far (by decide), show (stW v 1 (ldM (stR v 1) (v.1 62) jx i)).1 54 = v.1 54 from st_far (by decide)]; rw [show lk (fun t => ¬ (t < N ∧ ∃ j : Nat, j < 4096 ∧ v.1 62 (40 * jx + t) = nI j)) Z 0 = i from el]) rfl (Rl_row hR (okC_ld hC i (by omega) (fun t ht => (Classical.not_not.mp (hno t ht)).2)) (agr_ld hA i))) (rsc_trans (rsc_rfl v) (rsc_st _ _ (by decide))) dX5_load_92
          · skip
            refine lv_if_eq (tgt := 90) C.1.1 C.1.2.1 dX5_load_44 (by decide) (fun _ => ?_) (fun c_9 => absurd c_9 (by decide))
            refine lv_iload C.1.1 C.1.2.1 dX5_load_90 (lv_at hl 4 rfl) ?_
            have el : lk (LdP v N jx) Z 0 = i := lk_yes Z 0 i (Nat.zero_le _) (by omega) (fun t _ ht => hno t ht) (fun h => b_3 ⟨i, h.1, rfl⟩)
            exact t_P C rfl hP hS (ps_to (show loadM (stW v 1 (ldM (stR v 1) (v.1 62) jx i)) (nI jx) = (nI i, upw (stW v 1 (ldM (stR v 1) (v.1 62) jx i)) 54 (ldM (v.1 54) (v.1 62) jx i)) from by simp only [loadM, why_cong (v := v) (u := stW v 1 (ldM (stR v 1) (v.1 62) jx i)) (nI jx) (st_far (by decide)), hwy, if_pos (show (-1 : Int32) < 0 by decide), show (stW v 1 (ldM (stR v 1) (v.1 62) jx i)).1 61 jx = nI Z from (congrFun (st_far (by decide)) _).trans hZ2, tn_nI (show Z < 2 ^ 31 by omega), tn_nI (show jx < 2 ^ 31 by omega), nM_of (show (stW v 1 (ldM (stR v 1) (v.1 62) jx i)).1 54 = v.1 54 from st_far (by decide)) hM, show (stW v 1 (ldM (stR v 1) (v.1 62) jx i)).1 62 = v.1 62 from st_far (by decide), show (stW v 1 (ldM (stR v 1) (v.1 62) jx i)).1 54 = v.1 54 from st_far (by decide)]; rw [show lk (fun t => ¬ (t < N ∧ ∃ j : Nat, j < 4096 ∧ v.1 62 (40 * jx + t) = nI j)) Z 0 = i from el]) rfl (Rl_row hR (okC_ld hC i (by omega) (fun t ht => (Classical.not_not.mp (hno t ht)).2)) (agr_ld hA i))) (rsc_trans (rsc_rfl v) (rsc_st _ _ (by decide))) dX5_load_92
    exact lp_26 (Z + 1) 0 (Nat.zero_le _) (by omega) _ _ _ (fun t ht => absurd ht (Nat.not_lt_zero t)) (Nat.zero_le _) (by rw [show stW v 1 (ldM (stR v 1) (v.1 62) jx 0) = v from st_self v 1]; exact hP) hS (lv_sub hl [3, 4, 2, 1, 0] rfl)
  · skip
    obtain ⟨jw, hjw, hxw, hwy⟩ := ww_n hR c_1
    refine lv_aload_n C.1.1 C.1.2.1 dX5_load_10 rfl (lv_at hl 1 rfl) ?_
    refine lv_iload_n C.1.1 C.1.2.1 dX5_load_11 rfl (lv_at hl 0 rfl) ?_
    refine a_F hS (run_V C hP hS hl.1 0 5 (Nat.lt_of_lt_of_le (by decide) hn) rfl (by decide) rfl [.int (wwF v x)] (kX5_finding l g n v jw hjw (wwF v x) hxw) gX5_load_X5_finding rfl hdX5_finding rfl ⟨rfl, rfl⟩ ⟨Nat.le_of_ble_eq_true rfl, Nat.le_of_ble_eq_true rfl⟩ rfl [] rfl (Nat.le_of_ble_eq_true rfl) dX5_load_12 ⟨Nat.zero_le _, Nat.zero_le _⟩) (fun H locs hP hS => ?_)
    exact t_P C rfl hP hS (ps_fd (f := fun u => loadM u x) hR (sam_rfl v) hjw (by simp only [loadM, nM_of (show (fnC v jw).1 54 = v.1 54 from (upw_ne _ _ (by omega))) hM, why_cong (v := v) (u := fnC v jw) x (upw_ne _ _ (by omega)), hwy, if_neg (nI_n0 hjw), fdW, tn_nI (show jw < 2 ^ 31 by omega)]) hxw) (rsc_trans (rsc_rfl v) (rsc_w _ _ (by decide))) dX5_load_15

abbrev rmX5_judge : Room := { frames := 3, cells := 0, slots := 0, locals := 63 }
set_option maxHeartbeats 4000000 in
set_option maxRecDepth 100000 in
theorem kX5_judge (l : Launch) (g : GG) (n : Nat) (v : SV) (x : Int32) (N : Nat) (hR : Rl v N) : Met l yX5_judge wsX5_judge rmX5_judge (PW g n v [.ref (gA g 0), .int x]) (QP g n v (fun u => judgeM u x)) 0 0 (wA g n) := by
  refine Met.begin RX5 rfl (by decide) rfl (Nat.le_of_ble_eq_true rfl) ?_
  intro p e s m args below meth c ls ha C hP hS hl
  have hn : 64 ≤ n := C.2.1.1.2.1
  have hi1 : ∀ w ∈ u_ws RX1 TX1 3, w ∈ wsX5_judge := by decide +kernel
  have hi2 : ∀ w ∈ u_ws RX2 TX2 11, w ∈ wsX5_judge := by decide +kernel
  have hi5 : ∀ w ∈ u_ws RX5 TX5 8, w ∈ wsX5_judge := by decide +kernel
  have hl : lv_has ls 5 [(0, .ref (gA g 0)), (1, .int x)] := hl
  have hC := hR.1.1
  have hA := hR.1.2
  have h8 := hC.1
  have hD : okC (v.1 54) N := okC_agr (agr_symm hA) hC
  have hM := okC_M hD
  refine lv_aload_n C.1.1 C.1.2.1 dX5_judge_0 rfl (lv_at hl 0 rfl) ?_
  refine lv_iload_n C.1.1 C.1.2.1 dX5_judge_1 rfl (lv_at hl 1 rfl) ?_
  refine a_F hS (run_V C hP hS hl.1 0 5 (Nat.lt_of_lt_of_le (by decide) hn) rfl (by decide) rfl [.int x] (kX5_wrongWithSheet l g n v x) gX5_judge_X5_wrongWithSheet rfl hdX5_wrongWithSheet rfl ⟨rfl, rfl⟩ ⟨Nat.le_of_ble_eq_true rfl, Nat.le_of_ble_eq_true rfl⟩ rfl [] rfl (Nat.le_of_ble_eq_true rfl) dX5_judge_2 ⟨Nat.zero_le _, Nat.zero_le _⟩) (fun H locs hP hS => ?_)
  refine lv_istore_n (lv' := [(2, .int (wwF v x)), (0, .ref (gA g 0)), (1, .int x)]) C.1.1 C.1.2.1 dX5_judge_5 rfl hl (by decide) rfl (fun ls hl => ?_)
  refine lv_iload_n C.1.1 C.1.2.1 dX5_judge_6 rfl (lv_at hl 0 rfl) ?_
  refine lv_if_eq (tgt := 16) C.1.1 C.1.2.1 dX5_judge_7 (by decide) (fun c_1 => ?_) (fun c_1 => ?_)
  · skip
    obtain ⟨jx, hjx, ejx, hwy⟩ := ww_0 hR c_1
    subst ejx
    obtain ⟨q60, ⟨Z, hZ, hZ1, hZ2⟩, q62⟩ := hR.2.2.2.1 jx hjx
    refine lv_aload_n C.1.1 C.1.2.1 dX5_judge_16 rfl (lv_at hl 1 rfl) ?_
    refine r_get C hP 0 5 (Nat.lt_of_lt_of_le (by decide) hn) rfl (by decide) rfl hi5 6 (by decide) (List.mem_of_getElem? (i := 1) rfl) rfl (val := .ref (gA g 43)) rfl dX5_judge_17 ?_
    refine lv_iload_n C.1.1 C.1.2.1 dX5_judge_20 rfl (lv_at hl 2 rfl) ?_
    refine r_aaldS C hP 43 (Nat.lt_of_lt_of_le (by decide) hn) rfl jx rfl (by omega) dX5_judge_21 ?_
    refine lv_astore_n (lv' := [(3, .ref (gA g (44 + 2 * jx))), (2, .int (wwF v (nI jx))), (0, .ref (gA g 0)), (1, .int (nI jx))]) C.1.1 C.1.2.1 dX5_judge_22 rfl hl (by decide) rfl (fun ls hl => ?_)
    refine lv_iconst (v := 0) C.1.1 C.1.2.1 dX5_judge_23 rfl ?_
    refine lv_istore (lv' := [(4, .int 0), (3, .ref (gA g (44 + 2 * jx))), (2, .int (wwF v (nI jx))), (0, .ref (gA g 0)), (1, .int (nI jx))]) C.1.1 C.1.2.1 dX5_judge_24 hl (by decide) rfl (fun ls hl => ?_)
    have lp_26 : ∀ (k_26 i : Nat), i ≤ Z → Z + 1 ≤ i + k_26 → ∀ (H : Heap) (locs : List Loc) (ls : Array Slot), (∀ t, t < i → ¬ JdP v jx t) → va_P g.1 vwCl (wl g n v) H → va_S (wA g n) s.heap H locs → lv_has ls 5 [(0, .ref (gA g 0)), (1, .int (nI jx)), (2, .int (wwF v (nI jx))), (3, .ref (gA g (44 + 2 * jx))), (4, .int (nI i))] → W p l e rmX5_judge s m args below meth c H locs 0 0 (MQ below (QP g n v (fun u => judgeM u (nI jx))) args s 0 0 (wA g n)) (F0 m 26 ls []) := by
      clear hP hS hl
      intro k_26
      induction k_26 with
      | zero => exact fun i h1 h2 => absurd h2 (by omega)
      | succ k_26 ih_26 =>
        intro i hi_26 hk_26 H locs ls hno hP hS hl
        refine lv_iload C.1.1 C.1.2.1 dX5_judge_26 (lv_at hl 4 rfl) ?_
        refine lv_aload_n C.1.1 C.1.2.1 dX5_judge_28 rfl (lv_at hl 3 rfl) ?_
        refine r_get C hP (44 + 2 * jx) 1 (by omega) (kd_sh jx (by omega)).1 (by decide) rfl hi1 1 (by decide) (List.mem_of_getElem? (i := 2) rfl) rfl (val := .int (v.1 (44 + 2 * jx) 1)) rfl dX5_judge_29 ?_
        refine lv_topE (nI Z) hZ1 ?_
        refine lv_icmp_ge (tgt := 73) C.1.1 C.1.2.1 dX5_judge_32 (by decide) (fun c_2 => ?_) (fun c_2 => ?_)
        · rw [show (nI Z ≤ nI i) = (Z ≤ i) from propext (nI_leI (a := Z) (b := i) (by omega) (by omega))] at c_2
          refine lv_iconst (v := 0) C.1.1 C.1.2.1 dX5_judge_73 rfl ?_
          have el : lk (JdP v jx) Z 0 = Z := by rw [lk_no Z 0 (fun t _ ht => hno t (by omega))]; omega
          exact t_P C rfl hP hS (ps_eq (u := v) hR (show judgeM v (nI jx) = (0, v) from by simp only [judgeM, hwy, if_pos (show (-1 : Int32) < 0 by decide), show (v).1 61 jx = nI Z from (congrFun rfl _).trans hZ2, tn_nI (show Z < 2 ^ 31 by omega), tn_nI (show jx < 2 ^ 31 by omega)]; rw [show lk (fun t => ¬ ((∃ j : Nat, j < 12 ∧ nI t = nI j) ∧ v.1 62 (40 * jx + t) = v.1 54 (13 + t))) Z 0 = Z from el, if_neg (Nat.lt_irrefl Z)]) rfl (sam_rfl v)) (rsc_rfl v) dX5_judge_74
        · rw [show (nI Z ≤ nI i) = (Z ≤ i) from propext (nI_leI (a := Z) (b := i) (by omega) (by omega))] at c_2
          refine lv_iload C.1.1 C.1.2.1 dX5_judge_35 (lv_at hl 4 rfl) ?_
          refine lv_bipush (v := 12) C.1.1 C.1.2.1 dX5_judge_37 rfl ?_
          refine lv_icmp_ge (tgt := 62) C.1.1 C.1.2.1 dX5_judge_39 (by decide) (fun c_3 => ?_) (fun c_3 => ?_)
          · rw [show (12 ≤ nI i) = (12 ≤ i) from propext (nI_leI (a := 12) (b := i) (by omega) (by omega))] at c_3
            refine lv_iconst (v := 1) C.1.1 C.1.2.1 dX5_judge_62 rfl ?_
            refine lv_iload C.1.1 C.1.2.1 dX5_judge_63 (lv_at hl 4 rfl) ?_
            refine lv_iadd C.1.1 C.1.2.1 dX5_judge_65 ?_
            refine lv_topE (nI (1 + i)) (nI_add 1 i) ?_
            have hjd : JdP v jx i := jd_yes (by omega) (by first | exact Or.inr c_3 | exact Or.inl (by omega))
            have el : lk (JdP v jx) Z 0 = i := lk_yes Z 0 i (Nat.zero_le _) (by omega) (fun t _ ht => hno t ht) hjd
            exact t_P C rfl hP hS (ps_eq (u := v) hR (show judgeM v (nI jx) = (1 + nI i, v) from by simp only [judgeM, hwy, if_pos (show (-1 : Int32) < 0 by decide), show (v).1 61 jx = nI Z from (congrFun rfl _).trans hZ2, tn_nI (show Z < 2 ^ 31 by omega), tn_nI (show jx < 2 ^ 31 by omega)]; rw [show lk (fun t => ¬ ((∃ j : Nat, j < 12 ∧ nI t = nI j) ∧ v.1 62 (40 * jx + t) = v.1 54 (13 + t))) Z 0 = i from el, if_pos (show i < Z by omega)]) (nI_add 1 i).symm (sam_rfl v)) (rsc_rfl v) dX5_judge_66
          · rw [show (12 ≤ nI i) = (12 ≤ i) from propext (nI_leI (a := 12) (b := i) (by omega) (by omega))] at c_3
            refine lv_aload_n C.1.1 C.1.2.1 dX5_judge_42 rfl (lv_at hl 3 rfl) ?_
            refine r_get C hP (44 + 2 * jx) 1 (by omega) (kd_sh jx (by omega)).1 (by decide) rfl hi1 2 (by decide) (List.mem_of_getElem? (i := 3) rfl) rfl (val := .ref (gA g ((44 + 2 * jx) + 1))) rfl dX5_judge_43 ?_
            refine lv_iload C.1.1 C.1.2.1 dX5_judge_46 (lv_at hl 4 rfl) ?_
            refine r_iald C hP ((44 + 2 * jx) + 1) (by omega) (kd_sh jx (by omega)).2.1 i rfl (N := 40) (kd_sh jx (by omega)).2.2 (by decide) (by omega) dX5_judge_48 ?_
            refine lv_topE (v.1 62 (40 * jx + i)) (q62 i (by omega)) ?_
            refine lv_aload_n C.1.1 C.1.2.1 dX5_judge_49 rfl (lv_at hl 0 rfl) ?_
            refine r_get C hP 0 5 (Nat.lt_of_lt_of_le (by decide) hn) rfl (by decide) rfl hi5 0 (by decide) (List.mem_of_getElem? (i := 4) rfl) rfl (val := .ref (gA g 1)) rfl dX5_judge_50 ?_
            refine r_get C hP 1 2 (Nat.lt_of_lt_of_le (by decide) hn) rfl (by decide) rfl hi2 4 (by decide) (List.mem_of_getElem? (i := 5) rfl) rfl (val := .ref (gA g 3)) rfl dX5_judge_53 ?_
            refine lv_iload C.1.1 C.1.2.1 dX5_judge_56 (lv_at hl 4 rfl) ?_
            refine r_iald C hP 3 (Nat.lt_of_lt_of_le (by decide) hn) rfl i rfl (N := 12) rfl (by decide) (by omega) dX5_judge_58 ?_
            refine lv_topE (v.1 54 (13 + i)) ((scr_rd (i := 13 + i) (sam_rfl v).1 (sl_2 (by omega)) (by omega)).trans (agr_lo (agr_symm hA) (by omega))) ?_
            refine lv_icmp_eq (tgt := 67) C.1.1 C.1.2.1 dX5_judge_59 (by decide) (fun c_4 => ?_) (fun c_4 => ?_)
            · skip
              refine lv_iinc (v := nI (i + 1)) (lv' := [(4, .int (nI (i + 1))), (0, .ref (gA g 0)), (1, .int (nI jx)), (2, .int (wwF v (nI jx))), (3, .ref (gA g (44 + 2 * jx)))]) C.1.1 C.1.2.1 dX5_judge_67 hl (k := 4) rfl (nI_1 i) (by decide) rfl (fun ls hl => ?_)
              refine lv_goto (tgt := 26) C.1.1 C.1.2.1 dX5_judge_70 (by decide) ?_
              exact ih_26 (i + 1) (by omega) (by omega) _ _ _ (fun t ht => if h9 : t < i then hno t h9 else by rw [show t = i by omega]; exact jd_no (by omega) c_4) hP hS (lv_sub hl [1, 2, 3, 4, 0] rfl)
            · skip
              refine lv_iconst (v := 1) C.1.1 C.1.2.1 dX5_judge_62 rfl ?_
              refine lv_iload C.1.1 C.1.2.1 dX5_judge_63 (lv_at hl 4 rfl) ?_
              refine lv_iadd C.1.1 C.1.2.1 dX5_judge_65 ?_
              refine lv_topE (nI (1 + i)) (nI_add 1 i) ?_
              have hjd : JdP v jx i := jd_yes (by omega) (by first | exact Or.inr c_4 | exact Or.inl (by omega))
              have el : lk (JdP v jx) Z 0 = i := lk_yes Z 0 i (Nat.zero_le _) (by omega) (fun t _ ht => hno t ht) hjd
              exact t_P C rfl hP hS (ps_eq (u := v) hR (show judgeM v (nI jx) = (1 + nI i, v) from by simp only [judgeM, hwy, if_pos (show (-1 : Int32) < 0 by decide), show (v).1 61 jx = nI Z from (congrFun rfl _).trans hZ2, tn_nI (show Z < 2 ^ 31 by omega), tn_nI (show jx < 2 ^ 31 by omega)]; rw [show lk (fun t => ¬ ((∃ j : Nat, j < 12 ∧ nI t = nI j) ∧ v.1 62 (40 * jx + t) = v.1 54 (13 + t))) Z 0 = i from el, if_pos (show i < Z by omega)]) (nI_add 1 i).symm (sam_rfl v)) (rsc_rfl v) dX5_judge_66
    exact lp_26 (Z + 1) 0 (Nat.zero_le _) (by omega) _ _ _ (fun t ht => absurd ht (Nat.not_lt_zero t)) hP hS (lv_sub hl [3, 4, 2, 1, 0] rfl)
  · skip
    obtain ⟨jw, hjw, hxw, hwy⟩ := ww_n hR c_1
    refine lv_aload_n C.1.1 C.1.2.1 dX5_judge_10 rfl (lv_at hl 1 rfl) ?_
    refine lv_iload_n C.1.1 C.1.2.1 dX5_judge_11 rfl (lv_at hl 0 rfl) ?_
    refine a_F hS (run_V C hP hS hl.1 0 5 (Nat.lt_of_lt_of_le (by decide) hn) rfl (by decide) rfl [.int (wwF v x)] (kX5_finding l g n v jw hjw (wwF v x) hxw) gX5_judge_X5_finding rfl hdX5_finding rfl ⟨rfl, rfl⟩ ⟨Nat.le_of_ble_eq_true rfl, Nat.le_of_ble_eq_true rfl⟩ rfl [] rfl (Nat.le_of_ble_eq_true rfl) dX5_judge_12 ⟨Nat.zero_le _, Nat.zero_le _⟩) (fun H locs hP hS => ?_)
    exact t_P C rfl hP hS (ps_fd (f := fun u => judgeM u x) hR (sam_rfl v) hjw (by simp only [judgeM, nM_of (show (fnC v jw).1 54 = v.1 54 from (upw_ne _ _ (by omega))) hM, why_cong (v := v) (u := fnC v jw) x (upw_ne _ _ (by omega)), hwy, if_neg (nI_n0 hjw), fdW, tn_nI (show jw < 2 ^ 31 by omega)]) hxw) (rsc_trans (rsc_rfl v) (rsc_w _ _ (by decide))) dX5_judge_15

abbrev rmX5_copy : Room := { frames := 2, cells := 0, slots := 0, locals := 60 }
set_option maxHeartbeats 4000000 in
set_option maxRecDepth 100000 in
theorem kX5_copy (l : Launch) (g : GG) (n : Nat) (v : SV) (x y z a b : Int32) (N : Nat) (hR : Rl v N) : Met l yX5_copy wsX5_copy rmX5_copy (PW g n v [.ref (gA g 0), .int x, .int y, .int z, .int a, .int b]) (QP g n v (fun u => copyM u x y z a b)) 0 0 (wA g n) := by
  refine Met.begin RX5 rfl (by decide) rfl (Nat.le_of_ble_eq_true rfl) ?_
  intro p e s m args below meth c ls ha C hP hS hl
  have hn : 64 ≤ n := C.2.1.1.2.1
  have hi1 : ∀ w ∈ u_ws RX1 TX1 3, w ∈ wsX5_copy := by decide +kernel
  have hi5 : ∀ w ∈ u_ws RX5 TX5 8, w ∈ wsX5_copy := by decide +kernel
  have hl : lv_has ls 8 [(0, .ref (gA g 0)), (1, .int x), (2, .int y), (3, .int z), (4, .int a), (5, .int b)] := hl
  have hC := hR.1.1
  have hA := hR.1.2
  have h8 := hC.1
  have hD : okC (v.1 54) N := okC_agr (agr_symm hA) hC
  have hM := okC_M hD
  refine lv_iload_n C.1.1 C.1.2.1 dX5_copy_0 rfl (lv_at hl 1 rfl) ?_
  refine a_B hS (run_S C hP hS hl.1 [.int x] (kX5_isSheet l g n v x) gX5_copy_X5_isSheet hdX5_isSheet rfl ⟨rfl, rfl⟩ ⟨Nat.le_of_ble_eq_true rfl, Nat.le_of_ble_eq_true rfl⟩ rfl [] rfl (Nat.le_of_ble_eq_true rfl) dX5_copy_1 ⟨Nat.zero_le _, Nat.zero_le _⟩) (fun b_1 H locs hP hS => ?_) (fun b_1 H locs hP hS => ?_)
  · skip
    have kb_1 := b_1
    obtain ⟨jx, hjx, rfl⟩ := b_1
    refine lv_if_eq (tgt := 14) C.1.1 C.1.2.1 dX5_copy_4 (by decide) (fun c_2 => absurd c_2 (by decide)) (fun _ => ?_)
    refine lv_iload_n C.1.1 C.1.2.1 dX5_copy_7 rfl (lv_at hl 3 rfl) ?_
    refine a_B hS (run_S C hP hS hl.1 [.int z] (kX5_isSheet l g n v z) gX5_copy_X5_isSheet hdX5_isSheet rfl ⟨rfl, rfl⟩ ⟨Nat.le_of_ble_eq_true rfl, Nat.le_of_ble_eq_true rfl⟩ rfl [] rfl (Nat.le_of_ble_eq_true rfl) dX5_copy_8 ⟨Nat.zero_le _, Nat.zero_le _⟩) (fun b_3 H locs hP hS => ?_) (fun b_3 H locs hP hS => ?_)
    · skip
      obtain ⟨jz, hjz, rfl⟩ := id b_3
      obtain ⟨q60, ⟨Z, hZ, hZ1, hZ2⟩, q62⟩ := hR.2.2.2.1 jx hjx
      obtain ⟨p60, ⟨Zt, hZt, hZt1, hZt2⟩, p62⟩ := hR.2.2.2.1 jz hjz
      refine lv_if_ne (tgt := 21) C.1.1 C.1.2.1 dX5_copy_11 (by decide) (fun _ => ?_) (fun c_4 => absurd c_4 (by decide))
      refine lv_aload_n C.1.1 C.1.2.1 dX5_copy_21 rfl (lv_at hl 0 rfl) ?_
      refine r_get C hP 0 5 (Nat.lt_of_lt_of_le (by decide) hn) rfl (by decide) rfl hi5 6 (by decide) (List.mem_of_getElem? (i := 2) rfl) rfl (val := .ref (gA g 43)) rfl dX5_copy_22 ?_
      refine lv_iload_n C.1.1 C.1.2.1 dX5_copy_25 rfl (lv_at hl 1 rfl) ?_
      refine r_aaldS C hP 43 (Nat.lt_of_lt_of_le (by decide) hn) rfl jx rfl (by omega) dX5_copy_26 ?_
      refine lv_astore (lv' := [(6, .ref (gA g (44 + 2 * jx))), (0, .ref (gA g 0)), (1, .int (nI jx)), (2, .int y), (3, .int (nI jz)), (4, .int a), (5, .int b)]) C.1.1 C.1.2.1 dX5_copy_27 hl (by decide) rfl (fun ls hl => ?_)
      refine lv_aload_n C.1.1 C.1.2.1 dX5_copy_29 rfl (lv_at hl 1 rfl) ?_
      refine r_get C hP 0 5 (Nat.lt_of_lt_of_le (by decide) hn) rfl (by decide) rfl hi5 6 (by decide) (List.mem_of_getElem? (i := 2) rfl) rfl (val := .ref (gA g 43)) rfl dX5_copy_30 ?_
      refine lv_iload_n C.1.1 C.1.2.1 dX5_copy_33 rfl (lv_at hl 4 rfl) ?_
      refine r_aaldS C hP 43 (Nat.lt_of_lt_of_le (by decide) hn) rfl jz rfl (by omega) dX5_copy_34 ?_
      refine lv_astore (lv' := [(7, .ref (gA g (44 + 2 * jz))), (6, .ref (gA g (44 + 2 * jx))), (0, .ref (gA g 0)), (1, .int (nI jx)), (2, .int y), (3, .int (nI jz)), (4, .int a), (5, .int b)]) C.1.1 C.1.2.1 dX5_copy_35 hl (by decide) rfl (fun ls hl => ?_)
      refine lv_aload C.1.1 C.1.2.1 dX5_copy_37 (lv_at hl 1 rfl) ?_
      refine a_B hS (run_V C hP hS hl.1 (44 + 2 * jx) 1 (by omega) (kd_sh jx (by omega)).1 (by decide) rfl [] (kX1_isMissing l g n v (44 + 2 * jx) (by omega) (kd_sh jx (by omega)).1 (kd_sh jx (by omega)).2.1 (kd_sh jx (by omega)).2.2) gX5_copy_X1_isMissing rfl hdX1_isMissing rfl ⟨rfl, rfl⟩ ⟨Nat.le_of_ble_eq_true rfl, Nat.le_of_ble_eq_true rfl⟩ rfl [] rfl (Nat.le_of_ble_eq_true rfl) dX5_copy_39 ⟨Nat.zero_le _, Nat.zero_le _⟩) (fun b_5 H locs hP hS => ?_) (fun b_5 H locs hP hS => ?_)
      · skip
        refine lv_if_ne (tgt := 53) C.1.1 C.1.2.1 dX5_copy_42 (by decide) (fun _ => ?_) (fun c_6 => absurd c_6 (by decide))
        refine lv_aload_n C.1.1 C.1.2.1 dX5_copy_53 rfl (lv_at hl 2 rfl) ?_
        refine lv_ldc (v := (-1000006)) C.1.1 C.1.2.1 C.1.2.2.2.1 (C.1.2.2.2.2 _ (List.mem_of_getElem? (i := 3) rfl)) dX5_copy_54 ?_
        refine a_F hS (run_V C hP hS hl.1 0 5 (Nat.lt_of_lt_of_le (by decide) hn) rfl (by decide) rfl [.int (-1000006)] (kX5_finding l g n v 5 (by decide) (-1000006) rfl) gX5_copy_X5_finding rfl hdX5_finding rfl ⟨rfl, rfl⟩ ⟨Nat.le_of_ble_eq_true rfl, Nat.le_of_ble_eq_true rfl⟩ rfl [] rfl (Nat.le_of_ble_eq_true rfl) dX5_copy_56 ⟨Nat.zero_le _, Nat.zero_le _⟩) (fun H locs hP hS => ?_)
        have e54_7 : (fnC v 5).1 54 = v.1 54 := (upw_ne _ _ (by decide))
        exact t_P C rfl hP hS (ps_fd (f := fun u => copyM u (nI jx) y (nI jz) a b) hR (sam_rfl v) (by decide) (by simp only [copyM, nM_of e54_7 hM, e54_7, cif_pos kb_1, cif_pos b_3, tn_nI (show jx < 2 ^ 31 by omega), tn_nI (show jz < 2 ^ 31 by omega), show (fnC v 5).1 60 jx = v.1 (44 + 2 * jx) 0 from (congrFun (upw_ne _ _ (by omega)) _).trans q60.symm, show (fnC v 5).1 60 jz = v.1 (44 + 2 * jz) 0 from (congrFun (upw_ne _ _ (by omega)) _).trans p60.symm, if_pos b_5]) rfl) (rsc_trans (rsc_rfl v) (rsc_w _ _ (by decide))) dX5_copy_59
      · skip
        refine lv_if_ne (tgt := 53) C.1.1 C.1.2.1 dX5_copy_42 (by decide) (fun c_8 => absurd c_8 (by decide)) (fun _ => ?_)
        refine lv_aload C.1.1 C.1.2.1 dX5_copy_45 (lv_at hl 0 rfl) ?_
        refine a_B hS (run_V C hP hS hl.1 (44 + 2 * jz) 1 (by omega) (kd_sh jz (by omega)).1 (by decide) rfl [] (kX1_isMissing l g n v (44 + 2 * jz) (by omega) (kd_sh jz (by omega)).1 (kd_sh jz (by omega)).2.1 (kd_sh jz (by omega)).2.2) gX5_copy_X1_isMissing rfl hdX1_isMissing rfl ⟨rfl, rfl⟩ ⟨Nat.le_of_ble_eq_true rfl, Nat.le_of_ble_eq_true rfl⟩ rfl [] rfl (Nat.le_of_ble_eq_true rfl) dX5_copy_47 ⟨Nat.zero_le _, Nat.zero_le _⟩) (fun b_9 H locs hP hS => ?_) (fun b_9 H locs hP hS => ?_)
        · skip
          refine lv_if_eq (tgt := 60) C.1.1 C.1.2.1 dX5_copy_50 (by decide) (fun c_10 => absurd c_10 (by decide)) (fun _ => ?_)
          refine lv_aload_n C.1.1 C.1.2.1 dX5_copy_53 rfl (lv_at hl 2 rfl) ?_
          refine lv_ldc (v := (-1000006)) C.1.1 C.1.2.1 C.1.2.2.2.1 (C.1.2.2.2.2 _ (List.mem_of_getElem? (i := 3) rfl)) dX5_copy_54 ?_
          refine a_F hS (run_V C hP hS hl.1 0 5 (Nat.lt_of_lt_of_le (by decide) hn) rfl (by decide) rfl [.int (-1000006)] (kX5_finding l g n v 5 (by decide) (-1000006) rfl) gX5_copy_X5_finding rfl hdX5_finding rfl ⟨rfl, rfl⟩ ⟨Nat.le_of_ble_eq_true rfl, Nat.le_of_ble_eq_true rfl⟩ rfl [] rfl (Nat.le_of_ble_eq_true rfl) dX5_copy_56 ⟨Nat.zero_le _, Nat.zero_le _⟩) (fun H locs hP hS => ?_)
          have e54_11 : (fnC v 5).1 54 = v.1 54 := (upw_ne _ _ (by decide))
          exact t_P C rfl hP hS (ps_fd (f := fun u => copyM u (nI jx) y (nI jz) a b) hR (sam_rfl v) (by decide) (by simp only [copyM, nM_of e54_11 hM, e54_11, cif_pos kb_1, cif_pos b_3, tn_nI (show jx < 2 ^ 31 by omega), tn_nI (show jz < 2 ^ 31 by omega), show (fnC v 5).1 60 jx = v.1 (44 + 2 * jx) 0 from (congrFun (upw_ne _ _ (by omega)) _).trans q60.symm, show (fnC v 5).1 60 jz = v.1 (44 + 2 * jz) 0 from (congrFun (upw_ne _ _ (by omega)) _).trans p60.symm, if_neg b_5, if_pos b_9]) rfl) (rsc_trans (rsc_rfl v) (rsc_w _ _ (by decide))) dX5_copy_59
        · skip
          refine lv_if_eq (tgt := 60) C.1.1 C.1.2.1 dX5_copy_50 (by decide) (fun _ => ?_) (fun c_12 => absurd c_12 (by decide))
          refine lv_aload C.1.1 C.1.2.1 dX5_copy_60 (lv_at hl 1 rfl) ?_
          refine r_get C hP (44 + 2 * jx) 1 (by omega) (kd_sh jx (by omega)).1 (by decide) rfl hi1 0 (by decide) (List.mem_of_getElem? (i := 4) rfl) rfl (val := .int (v.1 (44 + 2 * jx) 0)) rfl dX5_copy_62 ?_
          refine lv_aload C.1.1 C.1.2.1 dX5_copy_65 (lv_at hl 0 rfl) ?_
          refine r_get C hP (44 + 2 * jz) 1 (by omega) (kd_sh jz (by omega)).1 (by decide) rfl hi1 0 (by decide) (List.mem_of_getElem? (i := 4) rfl) rfl (val := .int (v.1 (44 + 2 * jz) 0)) rfl dX5_copy_67 ?_
          refine lv_icmp_eq (tgt := 80) C.1.1 C.1.2.1 dX5_copy_70 (by decide) (fun c_13 => ?_) (fun c_13 => ?_)
          · skip
            refine lv_aload C.1.1 C.1.2.1 dX5_copy_80 (lv_at hl 1 rfl) ?_
            refine lv_iload_n C.1.1 C.1.2.1 dX5_copy_82 rfl (lv_at hl 4 rfl) ?_
            refine lv_iload C.1.1 C.1.2.1 dX5_copy_83 (lv_at hl 7 rfl) ?_
            refine a_B hS (run_V C hP hS hl.1 (44 + 2 * jx) 1 (by omega) (kd_sh jx (by omega)).1 (by decide) rfl [.int y, .int b] (kX1_hasRow l g n v (44 + 2 * jx) (by omega) (kd_sh jx (by omega)).1 (kd_sh jx (by omega)).2.1 (kd_sh jx (by omega)).2.2 y b) gX5_copy_X1_hasRow rfl hdX1_hasRow rfl ⟨rfl, rfl⟩ ⟨Nat.le_of_ble_eq_true rfl, Nat.le_of_ble_eq_true rfl⟩ rfl [] rfl (Nat.le_of_ble_eq_true rfl) dX5_copy_85 ⟨Nat.zero_le _, Nat.zero_le _⟩) (fun b_14 H locs hP hS => ?_) (fun b_14 H locs hP hS => ?_)
            · skip
              rw [hZ1] at b_14
              refine lv_if_eq (tgt := 103) C.1.1 C.1.2.1 dX5_copy_88 (by decide) (fun c_15 => absurd c_15 (by decide)) (fun _ => ?_)
              refine lv_aload C.1.1 C.1.2.1 dX5_copy_91 (lv_at hl 0 rfl) ?_
              refine lv_iload C.1.1 C.1.2.1 dX5_copy_93 (lv_at hl 6 rfl) ?_
              refine lv_iload C.1.1 C.1.2.1 dX5_copy_95 (lv_at hl 7 rfl) ?_
              refine a_B hS (run_V C hP hS hl.1 (44 + 2 * jz) 1 (by omega) (kd_sh jz (by omega)).1 (by decide) rfl [.int a, .int b] (kX1_hasRow l g n v (44 + 2 * jz) (by omega) (kd_sh jz (by omega)).1 (kd_sh jz (by omega)).2.1 (kd_sh jz (by omega)).2.2 a b) gX5_copy_X1_hasRow rfl hdX1_hasRow rfl ⟨rfl, rfl⟩ ⟨Nat.le_of_ble_eq_true rfl, Nat.le_of_ble_eq_true rfl⟩ rfl [] rfl (Nat.le_of_ble_eq_true rfl) dX5_copy_97 ⟨Nat.zero_le _, Nat.zero_le _⟩) (fun b_16 H locs hP hS => ?_) (fun b_16 H locs hP hS => ?_)
              · skip
                rw [hZt1] at b_16
                refine lv_if_ne (tgt := 110) C.1.1 C.1.2.1 dX5_copy_100 (by decide) (fun _ => ?_) (fun c_17 => absurd c_17 (by decide))
                obtain ⟨yy, bb, hab1, rfl, rfl⟩ := row_nat hZ b_14
                obtain ⟨aa, bb2, hab2, rfl, ebb⟩ := row_nat hZt b_16
                obtain rfl : bb = bb2 := (nI_eq (by omega) (by omega)).mp ebb
                refine lv_aload C.1.1 C.1.2.1 dX5_copy_110 (lv_at hl 1 rfl) ?_
                refine r_get C hP (44 + 2 * jx) 1 (by omega) (kd_sh jx (by omega)).1 (by decide) rfl hi1 2 (by decide) (List.mem_of_getElem? (i := 6) rfl) rfl (val := .ref (gA g ((44 + 2 * jx) + 1))) rfl dX5_copy_112 ?_
                refine lv_iload_n C.1.1 C.1.2.1 dX5_copy_115 rfl (lv_at hl 4 rfl) ?_
                refine lv_aload C.1.1 C.1.2.1 dX5_copy_116 (lv_at hl 0 rfl) ?_
                refine r_get C hP (44 + 2 * jz) 1 (by omega) (kd_sh jz (by omega)).1 (by decide) rfl hi1 2 (by decide) (List.mem_of_getElem? (i := 6) rfl) rfl (val := .ref (gA g ((44 + 2 * jz) + 1))) rfl dX5_copy_118 ?_
                refine lv_iload C.1.1 C.1.2.1 dX5_copy_121 (lv_at hl 6 rfl) ?_
                refine lv_iload C.1.1 C.1.2.1 dX5_copy_123 (lv_at hl 7 rfl) ?_
                refine r_copy C hP hS hl.1 ((44 + 2 * jx) + 1) ((44 + 2 * jz) + 1) (by omega) (by omega) (kd_sh jx (by omega)).2.1 (kd_sh jz (by omega)).2.1 yy aa bb (kd_sh jx (by omega)).2.2 (kd_sh jz (by omega)).2.2 (by omega) (by omega) (by omega) (by omega) rfl rfl rfl (List.mem_of_getElem? (i := 7) rfl) (List.mem_of_getElem? (i := 8) rfl) (List.mem_of_getElem? (i := 9) rfl) (List.mem_of_getElem? (i := 10) rfl) (Nat.le_of_ble_eq_true rfl) (Nat.le_of_ble_eq_true rfl) dX5_copy_125 (fun H locs hP hS => ?_)
                refine lv_iload C.1.1 C.1.2.1 dX5_copy_128 (lv_at hl 7 rfl) ?_
                exact t_P C rfl hP hS (ps_to (show copyM (upw v ((44 + 2 * jz) + 1) (va_cpy (v.1 ((44 + 2 * jx) + 1)) (v.1 ((44 + 2 * jz) + 1)) yy aa bb)) (nI jx) (nI yy) (nI jz) (nI aa) (nI bb) = (nI bb, copyS (upw v ((44 + 2 * jz) + 1) (va_cpy (v.1 ((44 + 2 * jx) + 1)) (v.1 ((44 + 2 * jz) + 1)) yy aa bb)) jx yy jz aa bb) from by simp only [copyM, cif_pos kb_1, cif_pos b_3, tn_nI (show jx < 2 ^ 31 by omega), tn_nI (show jz < 2 ^ 31 by omega), tn_nI (show yy < 2 ^ 31 by omega), tn_nI (show aa < 2 ^ 31 by omega), tn_nI (show bb < 2 ^ 31 by omega), show (upw v ((44 + 2 * jz) + 1) (va_cpy (v.1 ((44 + 2 * jx) + 1)) (v.1 ((44 + 2 * jz) + 1)) yy aa bb)).1 60 jx = v.1 (44 + 2 * jx) 0 from (congrFun (upw_ne _ _ (by omega)) _).trans q60.symm, show (upw v ((44 + 2 * jz) + 1) (va_cpy (v.1 ((44 + 2 * jx) + 1)) (v.1 ((44 + 2 * jz) + 1)) yy aa bb)).1 60 jz = v.1 (44 + 2 * jz) 0 from (congrFun (upw_ne _ _ (by omega)) _).trans p60.symm, if_neg b_5, if_neg b_9, if_pos c_13, show (upw v ((44 + 2 * jz) + 1) (va_cpy (v.1 ((44 + 2 * jx) + 1)) (v.1 ((44 + 2 * jz) + 1)) yy aa bb)).1 61 jx = nI Z from (congrFun (upw_ne _ _ (by omega)) _).trans hZ2, show (upw v ((44 + 2 * jz) + 1) (va_cpy (v.1 ((44 + 2 * jx) + 1)) (v.1 ((44 + 2 * jz) + 1)) yy aa bb)).1 61 jz = nI Zt from (congrFun (upw_ne _ _ (by omega)) _).trans hZt2, cp_yes hZ hZt hab1 hab2]) rfl (Rl_copy hR hjx hjz (by omega) (by omega))) (rsc_trans (rsc_rfl v) (rsc_w _ _ (by omega))) dX5_copy_130
              · skip
                rw [hZt1] at b_16
                refine lv_if_ne (tgt := 110) C.1.1 C.1.2.1 dX5_copy_100 (by decide) (fun c_18 => absurd c_18 (by decide)) (fun _ => ?_)
                refine lv_aload_n C.1.1 C.1.2.1 dX5_copy_103 rfl (lv_at hl 2 rfl) ?_
                refine lv_ldc (v := (-1000001)) C.1.1 C.1.2.1 C.1.2.2.2.1 (C.1.2.2.2.2 _ (List.mem_of_getElem? (i := 1) rfl)) dX5_copy_104 ?_
                refine a_F hS (run_V C hP hS hl.1 0 5 (Nat.lt_of_lt_of_le (by decide) hn) rfl (by decide) rfl [.int (-1000001)] (kX5_finding l g n v 0 (by decide) (-1000001) rfl) gX5_copy_X5_finding rfl hdX5_finding rfl ⟨rfl, rfl⟩ ⟨Nat.le_of_ble_eq_true rfl, Nat.le_of_ble_eq_true rfl⟩ rfl [] rfl (Nat.le_of_ble_eq_true rfl) dX5_copy_106 ⟨Nat.zero_le _, Nat.zero_le _⟩) (fun H locs hP hS => ?_)
                have e54_19 : (fnC v 0).1 54 = v.1 54 := (upw_ne _ _ (by decide))
                exact t_P C rfl hP hS (ps_fd (f := fun u => copyM u (nI jx) y (nI jz) a b) hR (sam_rfl v) (by decide) (by simp only [copyM, nM_of e54_19 hM, e54_19, cif_pos kb_1, cif_pos b_3, tn_nI (show jx < 2 ^ 31 by omega), tn_nI (show jz < 2 ^ 31 by omega), show (fnC v 0).1 60 jx = v.1 (44 + 2 * jx) 0 from (congrFun (upw_ne _ _ (by omega)) _).trans q60.symm, show (fnC v 0).1 60 jz = v.1 (44 + 2 * jz) 0 from (congrFun (upw_ne _ _ (by omega)) _).trans p60.symm, if_neg b_5, if_neg b_9, if_pos c_13, show (fnC v 0).1 61 jx = nI Z from (congrFun (upw_ne _ _ (by omega)) _).trans hZ2, show (fnC v 0).1 61 jz = nI Zt from (congrFun (upw_ne _ _ (by omega)) _).trans hZt2, cp_no hZ hZt (fun h => b_16 h.2)]) rfl) (rsc_trans (rsc_rfl v) (rsc_w _ _ (by decide))) dX5_copy_109
            · skip
              rw [hZ1] at b_14
              refine lv_if_eq (tgt := 103) C.1.1 C.1.2.1 dX5_copy_88 (by decide) (fun _ => ?_) (fun c_20 => absurd c_20 (by decide))
              refine lv_aload_n C.1.1 C.1.2.1 dX5_copy_103 rfl (lv_at hl 2 rfl) ?_
              refine lv_ldc (v := (-1000001)) C.1.1 C.1.2.1 C.1.2.2.2.1 (C.1.2.2.2.2 _ (List.mem_of_getElem? (i := 1) rfl)) dX5_copy_104 ?_
              refine a_F hS (run_V C hP hS hl.1 0 5 (Nat.lt_of_lt_of_le (by decide) hn) rfl (by decide) rfl [.int (-1000001)] (kX5_finding l g n v 0 (by decide) (-1000001) rfl) gX5_copy_X5_finding rfl hdX5_finding rfl ⟨rfl, rfl⟩ ⟨Nat.le_of_ble_eq_true rfl, Nat.le_of_ble_eq_true rfl⟩ rfl [] rfl (Nat.le_of_ble_eq_true rfl) dX5_copy_106 ⟨Nat.zero_le _, Nat.zero_le _⟩) (fun H locs hP hS => ?_)
              have e54_21 : (fnC v 0).1 54 = v.1 54 := (upw_ne _ _ (by decide))
              exact t_P C rfl hP hS (ps_fd (f := fun u => copyM u (nI jx) y (nI jz) a b) hR (sam_rfl v) (by decide) (by simp only [copyM, nM_of e54_21 hM, e54_21, cif_pos kb_1, cif_pos b_3, tn_nI (show jx < 2 ^ 31 by omega), tn_nI (show jz < 2 ^ 31 by omega), show (fnC v 0).1 60 jx = v.1 (44 + 2 * jx) 0 from (congrFun (upw_ne _ _ (by omega)) _).trans q60.symm, show (fnC v 0).1 60 jz = v.1 (44 + 2 * jz) 0 from (congrFun (upw_ne _ _ (by omega)) _).trans p60.symm, if_neg b_5, if_neg b_9, if_pos c_13, show (fnC v 0).1 61 jx = nI Z from (congrFun (upw_ne _ _ (by omega)) _).trans hZ2, show (fnC v 0).1 61 jz = nI Zt from (congrFun (upw_ne _ _ (by omega)) _).trans hZt2, cp_no hZ hZt (fun h => b_14 h.1)]) rfl) (rsc_trans (rsc_rfl v) (rsc_w _ _ (by decide))) dX5_copy_109
          · skip
            refine lv_aload_n C.1.1 C.1.2.1 dX5_copy_73 rfl (lv_at hl 2 rfl) ?_
            refine lv_ldc (v := (-1000003)) C.1.1 C.1.2.1 C.1.2.2.2.1 (C.1.2.2.2.2 _ (List.mem_of_getElem? (i := 5) rfl)) dX5_copy_74 ?_
            refine a_F hS (run_V C hP hS hl.1 0 5 (Nat.lt_of_lt_of_le (by decide) hn) rfl (by decide) rfl [.int (-1000003)] (kX5_finding l g n v 2 (by decide) (-1000003) rfl) gX5_copy_X5_finding rfl hdX5_finding rfl ⟨rfl, rfl⟩ ⟨Nat.le_of_ble_eq_true rfl, Nat.le_of_ble_eq_true rfl⟩ rfl [] rfl (Nat.le_of_ble_eq_true rfl) dX5_copy_76 ⟨Nat.zero_le _, Nat.zero_le _⟩) (fun H locs hP hS => ?_)
            have e54_22 : (fnC v 2).1 54 = v.1 54 := (upw_ne _ _ (by decide))
            exact t_P C rfl hP hS (ps_fd (f := fun u => copyM u (nI jx) y (nI jz) a b) hR (sam_rfl v) (by decide) (by simp only [copyM, nM_of e54_22 hM, e54_22, cif_pos kb_1, cif_pos b_3, tn_nI (show jx < 2 ^ 31 by omega), tn_nI (show jz < 2 ^ 31 by omega), show (fnC v 2).1 60 jx = v.1 (44 + 2 * jx) 0 from (congrFun (upw_ne _ _ (by omega)) _).trans q60.symm, show (fnC v 2).1 60 jz = v.1 (44 + 2 * jz) 0 from (congrFun (upw_ne _ _ (by omega)) _).trans p60.symm, if_neg b_5, if_neg b_9, if_neg c_13]) rfl) (rsc_trans (rsc_rfl v) (rsc_w _ _ (by decide))) dX5_copy_79
    · skip
      refine lv_if_ne (tgt := 21) C.1.1 C.1.2.1 dX5_copy_11 (by decide) (fun c_23 => absurd c_23 (by decide)) (fun _ => ?_)
      refine lv_aload_n C.1.1 C.1.2.1 dX5_copy_14 rfl (lv_at hl 0 rfl) ?_
      refine lv_ldc (v := (-1000001)) C.1.1 C.1.2.1 C.1.2.2.2.1 (C.1.2.2.2.2 _ (List.mem_of_getElem? (i := 1) rfl)) dX5_copy_15 ?_
      refine a_F hS (run_V C hP hS hl.1 0 5 (Nat.lt_of_lt_of_le (by decide) hn) rfl (by decide) rfl [.int (-1000001)] (kX5_finding l g n v 0 (by decide) (-1000001) rfl) gX5_copy_X5_finding rfl hdX5_finding rfl ⟨rfl, rfl⟩ ⟨Nat.le_of_ble_eq_true rfl, Nat.le_of_ble_eq_true rfl⟩ rfl [] rfl (Nat.le_of_ble_eq_true rfl) dX5_copy_17 ⟨Nat.zero_le _, Nat.zero_le _⟩) (fun H locs hP hS => ?_)
      have e54_24 : (fnC v 0).1 54 = v.1 54 := (upw_ne _ _ (by decide))
      exact t_P C rfl hP hS (ps_fd (f := fun u => copyM u (nI jx) y z a b) hR (sam_rfl v) (by decide) (by simp only [copyM, nM_of e54_24 hM, e54_24, cif_pos kb_1, cif_neg b_3, tn_nI (show jx < 2 ^ 31 by omega)]) rfl) (rsc_trans (rsc_rfl v) (rsc_w _ _ (by decide))) dX5_copy_20
  · skip
    refine lv_if_eq (tgt := 14) C.1.1 C.1.2.1 dX5_copy_4 (by decide) (fun _ => ?_) (fun c_25 => absurd c_25 (by decide))
    refine lv_aload_n C.1.1 C.1.2.1 dX5_copy_14 rfl (lv_at hl 0 rfl) ?_
    refine lv_ldc (v := (-1000001)) C.1.1 C.1.2.1 C.1.2.2.2.1 (C.1.2.2.2.2 _ (List.mem_of_getElem? (i := 1) rfl)) dX5_copy_15 ?_
    refine a_F hS (run_V C hP hS hl.1 0 5 (Nat.lt_of_lt_of_le (by decide) hn) rfl (by decide) rfl [.int (-1000001)] (kX5_finding l g n v 0 (by decide) (-1000001) rfl) gX5_copy_X5_finding rfl hdX5_finding rfl ⟨rfl, rfl⟩ ⟨Nat.le_of_ble_eq_true rfl, Nat.le_of_ble_eq_true rfl⟩ rfl [] rfl (Nat.le_of_ble_eq_true rfl) dX5_copy_17 ⟨Nat.zero_le _, Nat.zero_le _⟩) (fun H locs hP hS => ?_)
    have e54_26 : (fnC v 0).1 54 = v.1 54 := (upw_ne _ _ (by decide))
    exact t_P C rfl hP hS (ps_fd (f := fun u => copyM u x y z a b) hR (sam_rfl v) (by decide) (by simp only [copyM, nM_of e54_26 hM, e54_26, cif_neg b_1]) rfl) (rsc_trans (rsc_rfl v) (rsc_w _ _ (by decide))) dX5_copy_20

