abbrev rmJ0_coder_7d493 : Room := { frames := 0, cells := 0, slots := 0, locals := 0 }
set_option maxHeartbeats 4000000 in
set_option maxRecDepth 100000 in
theorem kJ0_coder_7d493 (l : Launch) (g : GG) (n : Nat) (v : SV) (i : Nat) (hi : i < 15) : Met l yJ0_coder_7d493 wsJ0_coder_7d493 rmJ0_coder_7d493 (PW g n v [.ref (gK g i)]) (QF g n 0 v) 0 0 (wA g n) := by
  refine Met.begin RJ0 rfl (by decide) rfl (Nat.le_of_ble_eq_true rfl) ?_
  intro p e s m args below meth c ls ha C hP hS hl
  have hn : 64 ≤ n := C.2.1.1.2.1
  have hl : lv_has ls 1 [(0, .ref (gK g i))] := hl
  refine va_gets C.1.1 C.1.2.1 C.2.1.2.2.1.2.2.2.2.1 hS C.1.2.2.2.1 (C.1.2.2.2.2 _ (List.mem_of_getElem? (i := 1) rfl)) (fun _ h => h) dJ0_coder_7d493_0 ?_
  refine lv_if_eq (tgt := 13) C.1.1 C.1.2.1 dJ0_coder_7d493_3 (by decide) (fun c_1 => absurd c_1 (by decide)) (fun _ => ?_)
  refine lv_aload_n C.1.1 C.1.2.1 dJ0_coder_7d493_6 rfl (lv_at hl 0 rfl) ?_
  refine vk_getf C.1.1 C.1.2.1 (C.2.1.2.2.1.2.2.2.1.1 i hi).2.1 hS C.1.2.2.2.1 (C.1.2.2.2.2 _ (List.mem_of_getElem? (i := 2) rfl)) (fun _ h => h) dJ0_coder_7d493_7 ?_
  refine lv_goto (tgt := 14) C.1.1 C.1.2.1 dJ0_coder_7d493_10 (by decide) ?_
  exact r_nret C rfl hP hS rfl ⟨rfl, rfl⟩ dJ0_coder_7d493_14

abbrev rmJ0_isLatin1_aae02 : Room := { frames := 0, cells := 0, slots := 0, locals := 0 }
set_option maxHeartbeats 4000000 in
set_option maxRecDepth 100000 in
theorem kJ0_isLatin1_aae02 (l : Launch) (g : GG) (n : Nat) (v : SV) (i : Nat) (hi : i < 15) : Met l yJ0_isLatin1_aae02 wsJ0_isLatin1_aae02 rmJ0_isLatin1_aae02 (PW g n v [.ref (gK g i)]) (QB g n True v) 0 0 (wA g n) := by
  refine Met.begin RJ0 rfl (by decide) rfl (Nat.le_of_ble_eq_true rfl) ?_
  intro p e s m args below meth c ls ha C hP hS hl
  have hn : 64 ≤ n := C.2.1.1.2.1
  have hl : lv_has ls 1 [(0, .ref (gK g i))] := hl
  refine va_gets C.1.1 C.1.2.1 C.2.1.2.2.1.2.2.2.2.1 hS C.1.2.2.2.1 (C.1.2.2.2.2 _ (List.mem_of_getElem? (i := 1) rfl)) (fun _ h => h) dJ0_isLatin1_aae02_0 ?_
  refine lv_if_eq (tgt := 17) C.1.1 C.1.2.1 dJ0_isLatin1_aae02_3 (by decide) (fun c_1 => absurd c_1 (by decide)) (fun _ => ?_)
  refine lv_aload_n C.1.1 C.1.2.1 dJ0_isLatin1_aae02_6 rfl (lv_at hl 0 rfl) ?_
  refine vk_getf C.1.1 C.1.2.1 (C.2.1.2.2.1.2.2.2.1.1 i hi).2.1 hS C.1.2.2.2.1 (C.1.2.2.2.2 _ (List.mem_of_getElem? (i := 2) rfl)) (fun _ h => h) dJ0_isLatin1_aae02_7 ?_
  refine lv_if_ne (tgt := 17) C.1.1 C.1.2.1 dJ0_isLatin1_aae02_10 (by decide) (fun c_2 => absurd c_2 (by decide)) (fun _ => ?_)
  refine lv_iconst (v := 1) C.1.1 C.1.2.1 dJ0_isLatin1_aae02_13 rfl ?_
  refine lv_goto (tgt := 18) C.1.1 C.1.2.1 dJ0_isLatin1_aae02_14 (by decide) ?_
  exact t_1 C rfl hP hS trivial rfl dJ0_isLatin1_aae02_18

abbrev rmJ0_length_8abf5 : Room := { frames := 1, cells := 0, slots := 0, locals := 20 }
set_option maxHeartbeats 4000000 in
set_option maxRecDepth 100000 in
theorem kJ0_length_8abf5 (l : Launch) (g : GG) (n : Nat) (v : SV) (i : Nat) (hi : i < 15) : Met l yJ0_length_8abf5 wsJ0_length_8abf5 rmJ0_length_8abf5 (PW g n v [.ref (gK g i)]) (QF g n (nI (wdN.getD i 0)) v) 0 0 (wA g n) := by
  refine Met.begin RJ0 rfl (by decide) rfl (Nat.le_of_ble_eq_true rfl) ?_
  intro p e s m args below meth c ls ha C hP hS hl
  have hn : 64 ≤ n := C.2.1.1.2.1
  have hl : lv_has ls 1 [(0, .ref (gK g i))] := hl
  refine lv_aload_n C.1.1 C.1.2.1 dJ0_length_8abf5_0 rfl (lv_at hl 0 rfl) ?_
  refine vk_getf C.1.1 C.1.2.1 (C.2.1.2.2.1.2.2.2.1.1 i hi).2.2.1 hS C.1.2.2.2.1 (C.1.2.2.2.2 _ (List.mem_of_getElem? (i := 1) rfl)) (fun _ h => h) dJ0_length_8abf5_1 ?_
  refine r_slen C hS i hi dJ0_length_8abf5_4 ?_
  refine lv_aload_n C.1.1 C.1.2.1 dJ0_length_8abf5_5 rfl (lv_at hl 0 rfl) ?_
  refine a_F hS (run_K C hP hS hl.1 i hi [] (kJ0_coder_7d493 l g n v i hi) gJ0_length_8abf5_J0_coder_7d493 rfl hdJ0_coder_7d493 rfl ⟨rfl, rfl⟩ ⟨Nat.le_of_ble_eq_true rfl, Nat.le_of_ble_eq_true rfl⟩ rfl [.int (nI (wdN.getD i 0))] rfl (Nat.le_of_ble_eq_true rfl) dJ0_length_8abf5_6 ⟨Nat.zero_le _, Nat.zero_le _⟩) (fun H locs hP hS => ?_)
  refine lv_ishr C.1.1 C.1.2.1 dJ0_length_8abf5_9 ?_
  refine lv_topE (nI (wdN.getD i 0)) (sh_0 i hi) ?_
  exact t_F C rfl hP hS rfl rfl dJ0_length_8abf5_10

abbrev rmJ3_checkIndex_8e157 : Room := { frames := 0, cells := 0, slots := 0, locals := 0 }
set_option maxHeartbeats 4000000 in
set_option maxRecDepth 100000 in
theorem kJ3_checkIndex_8e157 (l : Launch) (g : GG) (n : Nat) (v : SV) (t : Nat) (a b : Nat) (hab : a < b) (hb : b < 2 ^ 31) : Met l yJ3_checkIndex_8e157 wsJ3_checkIndex_8e157 rmJ3_checkIndex_8e157 (PW g n v [.int (nI a), .int (nI b), .ref t]) (QF g n (nI a) v) 0 0 (wA g n) := by
  refine Met.begin RJ3 rfl (by decide) rfl (Nat.le_of_ble_eq_true rfl) ?_
  intro p e s m args below meth c ls ha C hP hS hl
  have hn : 64 ≤ n := C.2.1.1.2.1
  have hl : lv_has ls 3 [(0, .int (nI a)), (1, .int (nI b)), (2, .ref t)] := hl
  refine lv_iload_n C.1.1 C.1.2.1 dJ3_checkIndex_8e157_0 rfl (lv_at hl 0 rfl) ?_
  refine lv_if_lt (tgt := 9) C.1.1 C.1.2.1 dJ3_checkIndex_8e157_1 (by decide) (fun c_1 => ?_) (fun c_1 => ?_)
  · rw [show (nI a < 0) = (a < 0) from propext (nI_ltI (a := a) (b := 0) (by omega) (by omega))] at c_1
    exact absurd c_1 (by omega)
  · rw [show (nI a < 0) = (a < 0) from propext (nI_ltI (a := a) (b := 0) (by omega) (by omega))] at c_1
    refine lv_iload_n C.1.1 C.1.2.1 dJ3_checkIndex_8e157_4 rfl (lv_at hl 0 rfl) ?_
    refine lv_iload_n C.1.1 C.1.2.1 dJ3_checkIndex_8e157_5 rfl (lv_at hl 1 rfl) ?_
    refine lv_icmp_lt (tgt := 16) C.1.1 C.1.2.1 dJ3_checkIndex_8e157_6 (by decide) (fun c_2 => ?_) (fun c_2 => ?_)
    · rw [show (nI a < nI b) = (a < b) from propext (nI_ltI (a := a) (b := b) (by omega) (by omega))] at c_2
      refine lv_iload_n C.1.1 C.1.2.1 dJ3_checkIndex_8e157_16 rfl (lv_at hl 0 rfl) ?_
      exact t_F C rfl hP hS rfl rfl dJ3_checkIndex_8e157_17
    · rw [show (nI a < nI b) = (a < b) from propext (nI_ltI (a := a) (b := b) (by omega) (by omega))] at c_2
      exact absurd c_2 (by omega)
set_option maxHeartbeats 4000000 in
set_option maxRecDepth 100000 in
theorem kJ3n (l : Launch) (g : GG) (n : Nat) (v : SV) (a b : Nat) (hab : a < b) (hb : b < 2 ^ 31) : Met l yJ3_checkIndex_8e157 wsJ3_checkIndex_8e157 rmJ3_checkIndex_8e157 (PW g n v [.int (nI a), .int (nI b), .null]) (QF g n (nI a) v) 0 0 (wA g n) := by
  refine Met.begin RJ3 rfl (by decide) rfl (Nat.le_of_ble_eq_true rfl) ?_
  intro p e s m args below meth c ls ha C hP hS hl
  have hn : 64 ≤ n := C.2.1.1.2.1
  have hl : lv_has ls 3 [(0, .int (nI a)), (1, .int (nI b)), (2, .null)] := hl
  refine lv_iload_n C.1.1 C.1.2.1 dJ3_checkIndex_8e157_0 rfl (lv_at hl 0 rfl) ?_
  refine lv_if_lt (tgt := 9) C.1.1 C.1.2.1 dJ3_checkIndex_8e157_1 (by decide) (fun c_1 => ?_) (fun c_1 => ?_)
  · rw [show (nI a < 0) = (a < 0) from propext (nI_ltI (a := a) (b := 0) (by omega) (by omega))] at c_1
    exact absurd c_1 (by omega)
  · rw [show (nI a < 0) = (a < 0) from propext (nI_ltI (a := a) (b := 0) (by omega) (by omega))] at c_1
    refine lv_iload_n C.1.1 C.1.2.1 dJ3_checkIndex_8e157_4 rfl (lv_at hl 0 rfl) ?_
    refine lv_iload_n C.1.1 C.1.2.1 dJ3_checkIndex_8e157_5 rfl (lv_at hl 1 rfl) ?_
    refine lv_icmp_lt (tgt := 16) C.1.1 C.1.2.1 dJ3_checkIndex_8e157_6 (by decide) (fun c_2 => ?_) (fun c_2 => ?_)
    · rw [show (nI a < nI b) = (a < b) from propext (nI_ltI (a := a) (b := b) (by omega) (by omega))] at c_2
      refine lv_iload_n C.1.1 C.1.2.1 dJ3_checkIndex_8e157_16 rfl (lv_at hl 0 rfl) ?_
      exact t_F C rfl hP hS rfl rfl dJ3_checkIndex_8e157_17
    · rw [show (nI a < nI b) = (a < b) from propext (nI_ltI (a := a) (b := b) (by omega) (by omega))] at c_2
      exact absurd c_2 (by omega)

abbrev rmJ0_checkIndex_df160 : Room := { frames := 1, cells := 0, slots := 0, locals := 22 }
set_option maxHeartbeats 4000000 in
set_option maxRecDepth 100000 in
theorem kJ0_checkIndex_df160 (l : Launch) (g : GG) (n : Nat) (v : SV) (a b : Nat) (hab : a < b) (hb : b < 2 ^ 31) : Met l yJ0_checkIndex_df160 wsJ0_checkIndex_df160 rmJ0_checkIndex_df160 (PW g n v [.int (nI a), .int (nI b)]) (QG g n v) 0 0 (wA g n) := by
  refine Met.begin RJ0 rfl (by decide) rfl (Nat.le_of_ble_eq_true rfl) ?_
  intro p e s m args below meth c ls ha C hP hS hl
  have hn : 64 ≤ n := C.2.1.1.2.1
  have hl : lv_has ls 2 [(0, .int (nI a)), (1, .int (nI b))] := hl
  refine lv_iload_n C.1.1 C.1.2.1 dJ0_checkIndex_df160_0 rfl (lv_at hl 0 rfl) ?_
  refine lv_iload_n C.1.1 C.1.2.1 dJ0_checkIndex_df160_1 rfl (lv_at hl 1 rfl) ?_
  rcases C.2.1.2.2.1.2.2.2.2.2 with hz | ⟨t, hz⟩
  · skip
    refine va_gets C.1.1 C.1.2.1 hz hS C.1.2.2.2.1 (C.1.2.2.2.2 _ (List.mem_of_getElem? (i := 1) rfl)) (fun _ h => h) dJ0_checkIndex_df160_2 ?_
    refine a_F hS (run_S C hP hS hl.1 [.int (nI a), .int (nI b), .null] (kJ3n l g n v a b (by omega) (by omega)) gJ0_checkIndex_df160_J3_checkIndex_8e157 hdJ3_checkIndex_8e157 rfl ⟨rfl, rfl⟩ ⟨Nat.le_of_ble_eq_true rfl, Nat.le_of_ble_eq_true rfl⟩ rfl [] rfl (Nat.le_of_ble_eq_true rfl) dJ0_checkIndex_df160_5 ⟨Nat.zero_le _, Nat.zero_le _⟩) (fun H locs hP hS => ?_)
    refine lv_pop C.1.1 C.1.2.1 dJ0_checkIndex_df160_8 rfl ?_
    exact t_G C rfl hP hS rfl dJ0_checkIndex_df160_9
  · skip
    refine va_gets C.1.1 C.1.2.1 hz hS C.1.2.2.2.1 (C.1.2.2.2.2 _ (List.mem_of_getElem? (i := 1) rfl)) (fun _ h => h) dJ0_checkIndex_df160_2 ?_
    refine a_F hS (run_S C hP hS hl.1 [.int (nI a), .int (nI b), .ref t] (kJ3_checkIndex_8e157 l g n v t a b (by omega) (by omega)) gJ0_checkIndex_df160_J3_checkIndex_8e157 hdJ3_checkIndex_8e157 rfl ⟨rfl, rfl⟩ ⟨Nat.le_of_ble_eq_true rfl, Nat.le_of_ble_eq_true rfl⟩ rfl [] rfl (Nat.le_of_ble_eq_true rfl) dJ0_checkIndex_df160_5 ⟨Nat.zero_le _, Nat.zero_le _⟩) (fun H locs hP hS => ?_)
    refine lv_pop C.1.1 C.1.2.1 dJ0_checkIndex_df160_8 rfl ?_
    exact t_G C rfl hP hS rfl dJ0_checkIndex_df160_9

abbrev rmJ1_charAt_3b067 : Room := { frames := 2, cells := 0, slots := 0, locals := 43 }
set_option maxHeartbeats 4000000 in
set_option maxRecDepth 100000 in
theorem kJ1_charAt_3b067 (l : Launch) (g : GG) (n : Nat) (v : SV) (i : Nat) (hi : i < 15) (k : Nat) (hk : k < wdN.getD i 0) : Met l yJ1_charAt_3b067 wsJ1_charAt_3b067 rmJ1_charAt_3b067 (PW g n v [.ref (gV g i), .int (nI k)]) (QF g n (chW i k) v) 0 0 (wA g n) := by
  refine Met.begin RJ1 rfl (by decide) rfl (Nat.le_of_ble_eq_true rfl) ?_
  intro p e s m args below meth c ls ha C hP hS hl
  have hn : 64 ≤ n := C.2.1.1.2.1
  have hl : lv_has ls 2 [(0, .ref (gV g i)), (1, .int (nI k))] := hl
  have hw8 := wd_lt i hi
  refine lv_iload_n C.1.1 C.1.2.1 dJ1_charAt_3b067_0 rfl (lv_at hl 1 rfl) ?_
  refine lv_aload_n C.1.1 C.1.2.1 dJ1_charAt_3b067_1 rfl (lv_at hl 0 rfl) ?_
  refine r_slen C hS i hi dJ1_charAt_3b067_2 ?_
  refine a_G hS (run_S C hP hS hl.1 [.int (nI k), .int (nI (wdN.getD i 0))] (kJ0_checkIndex_df160 l g n v k (wdN.getD i 0) (by omega) (by omega)) gJ1_charAt_3b067_J0_checkIndex_df160 hdJ0_checkIndex_df160 rfl ⟨rfl, rfl⟩ ⟨Nat.le_of_ble_eq_true rfl, Nat.le_of_ble_eq_true rfl⟩ rfl [] rfl (Nat.le_of_ble_eq_true rfl) dJ1_charAt_3b067_3 ⟨Nat.zero_le _, Nat.zero_le _⟩) (fun H locs hP hS => ?_)
  refine lv_aload_n C.1.1 C.1.2.1 dJ1_charAt_3b067_6 rfl (lv_at hl 0 rfl) ?_
  refine lv_iload_n C.1.1 C.1.2.1 dJ1_charAt_3b067_7 rfl (lv_at hl 1 rfl) ?_
  refine r_sald C hS i hi k rfl (by omega) (by omega) dJ1_charAt_3b067_8 ?_
  refine lv_sipush (v := 255) C.1.1 C.1.2.1 dJ1_charAt_3b067_9 rfl ?_
  refine lv_iand C.1.1 C.1.2.1 dJ1_charAt_3b067_12 ?_
  refine lv_i2c (v := ((((wdB.getD i []).getD k 0) &&& 255).toUInt32 % 65536).toInt32) C.1.1 C.1.2.1 dJ1_charAt_3b067_13 rfl ?_
  refine lv_topE (chW i k) ((ch_ok i hi k (by omega)).1) ?_
  exact r_nret C rfl hP hS (ch_ok i hi k (by omega)).2 ⟨rfl, rfl⟩ dJ1_charAt_3b067_14

abbrev rmJ0_charAt_5068e : Room := { frames := 3, cells := 0, slots := 0, locals := 64 }
set_option maxHeartbeats 4000000 in
set_option maxRecDepth 100000 in
theorem kJ0_charAt_5068e (l : Launch) (g : GG) (n : Nat) (v : SV) (i : Nat) (hi : i < 15) (k : Nat) (hk : k < wdN.getD i 0) : Met l yJ0_charAt_5068e wsJ0_charAt_5068e rmJ0_charAt_5068e (PW g n v [.ref (gK g i), .int (nI k)]) (QF g n (chW i k) v) 0 0 (wA g n) := by
  refine Met.begin RJ0 rfl (by decide) rfl (Nat.le_of_ble_eq_true rfl) ?_
  intro p e s m args below meth c ls ha C hP hS hl
  have hn : 64 ≤ n := C.2.1.1.2.1
  have hl : lv_has ls 2 [(0, .ref (gK g i)), (1, .int (nI k))] := hl
  have hw8 := wd_lt i hi
  refine lv_aload_n C.1.1 C.1.2.1 dJ0_charAt_5068e_0 rfl (lv_at hl 0 rfl) ?_
  refine a_B hS (run_K C hP hS hl.1 i hi [] (kJ0_isLatin1_aae02 l g n v i hi) gJ0_charAt_5068e_J0_isLatin1_aae02 rfl hdJ0_isLatin1_aae02 rfl ⟨rfl, rfl⟩ ⟨Nat.le_of_ble_eq_true rfl, Nat.le_of_ble_eq_true rfl⟩ rfl [] rfl (Nat.le_of_ble_eq_true rfl) dJ0_charAt_5068e_1 ⟨Nat.zero_le _, Nat.zero_le _⟩) (fun b_1 H locs hP hS => ?_) (fun b_1 H locs hP hS => ?_)
  · skip
    refine lv_if_eq (tgt := 16) C.1.1 C.1.2.1 dJ0_charAt_5068e_4 (by decide) (fun c_2 => absurd c_2 (by decide)) (fun _ => ?_)
    refine lv_aload_n C.1.1 C.1.2.1 dJ0_charAt_5068e_7 rfl (lv_at hl 0 rfl) ?_
    refine vk_getf C.1.1 C.1.2.1 (C.2.1.2.2.1.2.2.2.1.1 i hi).2.2.1 hS C.1.2.2.2.1 (C.1.2.2.2.2 _ (List.mem_of_getElem? (i := 1) rfl)) (fun _ h => h) dJ0_charAt_5068e_8 ?_
    refine lv_iload_n C.1.1 C.1.2.1 dJ0_charAt_5068e_11 rfl (lv_at hl 1 rfl) ?_
    refine a_F hS (run_S C hP hS hl.1 [.ref (gV g i), .int (nI k)] (kJ1_charAt_3b067 l g n v i hi k (by omega)) gJ0_charAt_5068e_J1_charAt_3b067 hdJ1_charAt_3b067 rfl ⟨rfl, rfl⟩ ⟨Nat.le_of_ble_eq_true rfl, Nat.le_of_ble_eq_true rfl⟩ rfl [] rfl (Nat.le_of_ble_eq_true rfl) dJ0_charAt_5068e_12 ⟨Nat.zero_le _, Nat.zero_le _⟩) (fun H locs hP hS => ?_)
    exact r_nret C rfl hP hS (ch_ok i hi k (by omega)).2 ⟨rfl, rfl⟩ dJ0_charAt_5068e_15
  · skip
    exact absurd trivial b_1

