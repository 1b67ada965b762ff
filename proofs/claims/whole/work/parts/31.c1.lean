abbrev rmX0_moveInAs : Room := { frames := 0, cells := 0, slots := 0, locals := 0 }
set_option maxHeartbeats 4000000 in
set_option maxRecDepth 100000 in
theorem kX0_moveInAs (l : Launch) (g : GG) (n : Nat) (v : SV) (k : Nat) (hk : k < 64) (hk0 : kd k = 0) (x y : Int32) : Met l yX0_moveInAs wsX0_moveInAs rmX0_moveInAs (PW g n v [.ref (gA g k), .int x, .int y]) (QG g n (upw v k (mvInR (v.1 k) x y))) 0 0 (wA g n) := by
  refine Met.begin RX0 rfl (by decide) rfl (Nat.le_of_ble_eq_true rfl) ?_
  intro p e s m args below meth c ls ha C hP hS hl
  have hn : 64 ≤ n := C.2.1.1.2.1
  have hi0 : ∀ w ∈ u_ws RX0 TX0 6, w ∈ wsX0_moveInAs := by decide +kernel
  have hl : lv_has ls 3 [(0, .ref (gA g k)), (1, .int x), (2, .int y)] := hl
  have hk1 : k < n := by omega
  refine lv_aload_n C.1.1 C.1.2.1 dX0_moveInAs_0 rfl (lv_at hl 0 rfl) ?_
  refine lv_iload_n C.1.1 C.1.2.1 dX0_moveInAs_1 rfl (lv_at hl 1 rfl) ?_
  refine r_put C hP hS k 0 hk1 hk0 (by decide) rfl hi0 tyX0 tyX0_ok nmX0 0 (by decide) (List.mem_of_getElem? (i := 1) rfl) rfl rfl rfl rfl rfl (Nat.le_of_ble_eq_true rfl) dX0_moveInAs_2 (fun H locs hP hS => ?_)
  obtain ⟨d_2, hd_2⟩ : ∃ zz, zz = upd (v.1 k) 0 x := ⟨_, rfl⟩
  rw [show up v k 0 x = upw v k d_2 from by rw [hd_2]] at hP
  refine lv_aload_n C.1.1 C.1.2.1 dX0_moveInAs_5 rfl (lv_at hl 0 rfl) ?_
  refine lv_iload_n C.1.1 C.1.2.1 dX0_moveInAs_6 rfl (lv_at hl 2 rfl) ?_
  refine r_put C hP hS k 0 hk1 hk0 (by decide) rfl hi0 tyX0 tyX0_ok nmX0 1 (by decide) (List.mem_of_getElem? (i := 2) rfl) rfl rfl rfl rfl rfl (Nat.le_of_ble_eq_true rfl) dX0_moveInAs_7 (fun H locs hP hS => ?_)
  obtain ⟨d_4, hd_4⟩ : ∃ zz, zz = upd d_2 1 y := ⟨_, rfl⟩
  rw [show up (upw v k d_2) k 1 y = upw v k d_4 from by rw [hd_4]; exact upw_up _ _ _ _ _] at hP
  refine lv_aload_n C.1.1 C.1.2.1 dX0_moveInAs_10 rfl (lv_at hl 0 rfl) ?_
  refine lv_iconst (v := 0) C.1.1 C.1.2.1 dX0_moveInAs_11 rfl ?_
  refine r_put C hP hS k 0 hk1 hk0 (by decide) rfl hi0 tyX0 tyX0_ok nmX0 2 (by decide) (List.mem_of_getElem? (i := 3) rfl) rfl rfl rfl rfl rfl (Nat.le_of_ble_eq_true rfl) dX0_moveInAs_12 (fun H locs hP hS => ?_)
  obtain ⟨d_6, hd_6⟩ : ∃ zz, zz = upd d_4 2 0 := ⟨_, rfl⟩
  rw [show up (upw v k d_4) k 2 0 = upw v k d_6 from by rw [hd_6]; exact upw_up _ _ _ _ _] at hP
  refine lv_aload_n C.1.1 C.1.2.1 dX0_moveInAs_15 rfl (lv_at hl 0 rfl) ?_
  refine lv_bipush (v := 50) C.1.1 C.1.2.1 dX0_moveInAs_16 rfl ?_
  refine r_put C hP hS k 0 hk1 hk0 (by decide) rfl hi0 tyX0 tyX0_ok nmX0 3 (by decide) (List.mem_of_getElem? (i := 4) rfl) rfl rfl rfl rfl rfl (Nat.le_of_ble_eq_true rfl) dX0_moveInAs_18 (fun H locs hP hS => ?_)
  obtain ⟨d_8, hd_8⟩ : ∃ zz, zz = upd d_6 3 50 := ⟨_, rfl⟩
  rw [show up (upw v k d_6) k 3 50 = upw v k d_8 from by rw [hd_8]; exact upw_up _ _ _ _ _] at hP
  refine lv_aload_n C.1.1 C.1.2.1 dX0_moveInAs_21 rfl (lv_at hl 0 rfl) ?_
  refine lv_iconst (v := 0) C.1.1 C.1.2.1 dX0_moveInAs_22 rfl ?_
  refine r_put C hP hS k 0 hk1 hk0 (by decide) rfl hi0 tyX0 tyX0_ok nmX0 4 (by decide) (List.mem_of_getElem? (i := 5) rfl) rfl rfl rfl rfl rfl (Nat.le_of_ble_eq_true rfl) dX0_moveInAs_23 (fun H locs hP hS => ?_)
  obtain ⟨d_10, hd_10⟩ : ∃ zz, zz = upd d_8 4 0 := ⟨_, rfl⟩
  rw [show up (upw v k d_8) k 4 0 = upw v k d_10 from by rw [hd_10]; exact upw_up _ _ _ _ _] at hP
  refine lv_aload_n C.1.1 C.1.2.1 dX0_moveInAs_26 rfl (lv_at hl 0 rfl) ?_
  refine lv_iconst (v := 0) C.1.1 C.1.2.1 dX0_moveInAs_27 rfl ?_
  refine r_put C hP hS k 0 hk1 hk0 (by decide) rfl hi0 tyX0 tyX0_ok nmX0 5 (by decide) (List.mem_of_getElem? (i := 6) rfl) rfl rfl rfl rfl rfl (Nat.le_of_ble_eq_true rfl) dX0_moveInAs_28 (fun H locs hP hS => ?_)
  obtain ⟨d_12, hd_12⟩ : ∃ zz, zz = upd d_10 5 0 := ⟨_, rfl⟩
  rw [show up (upw v k d_10) k 5 0 = upw v k d_12 from by rw [hd_12]; exact upw_up _ _ _ _ _] at hP
  exact t_G C rfl hP hS (by subst hd_12 hd_10 hd_8 hd_6 hd_4 hd_2; rfl) dX0_moveInAs_31

abbrev rmX0_hearing : Room := { frames := 0, cells := 0, slots := 0, locals := 0 }
set_option maxHeartbeats 4000000 in
set_option maxRecDepth 100000 in
theorem kX0_hearing (l : Launch) (g : GG) (n : Nat) (v : SV) (k : Nat) (hk : k < 64) (hk0 : kd k = 0) (x : Int32) : Met l yX0_hearing wsX0_hearing rmX0_hearing (PW g n v [.ref (gA g k), .int x]) (QF g n (hearF (v.1 k) x) v) 0 0 (wA g n) := by
  refine Met.begin RX0 rfl (by decide) rfl (Nat.le_of_ble_eq_true rfl) ?_
  intro p e s m args below meth c ls ha C hP hS hl
  have hn : 64 ≤ n := C.2.1.1.2.1
  have hi0 : ∀ w ∈ u_ws RX0 TX0 6, w ∈ wsX0_hearing := by decide +kernel
  have hl : lv_has ls 4 [(0, .ref (gA g k)), (1, .int x)] := hl
  have hk1 : k < n := by omega
  refine lv_iload_n C.1.1 C.1.2.1 dX0_hearing_0 rfl (lv_at hl 1 rfl) ?_
  refine lv_iconst (v := 2) C.1.1 C.1.2.1 dX0_hearing_1 rfl ?_
  refine lv_iadd C.1.1 C.1.2.1 dX0_hearing_2 ?_
  refine lv_istore_n (lv' := [(2, .int (x + 2)), (0, .ref (gA g k)), (1, .int x)]) C.1.1 C.1.2.1 dX0_hearing_3 rfl hl (by decide) rfl (fun ls hl => ?_)
  refine lv_iload_n C.1.1 C.1.2.1 dX0_hearing_4 rfl (lv_at hl 0 rfl) ?_
  refine lv_iconst (v := 2) C.1.1 C.1.2.1 dX0_hearing_5 rfl ?_
  refine lv_idiv C.1.1 C.1.2.1 dX0_hearing_6 (by decide) ?_
  refine lv_istore_n (lv' := [(3, .int ((x + 2) / 2)), (2, .int (x + 2)), (0, .ref (gA g k)), (1, .int x)]) C.1.1 C.1.2.1 dX0_hearing_7 rfl hl (by decide) rfl (fun ls hl => ?_)
  refine lv_aload_n C.1.1 C.1.2.1 dX0_hearing_8 rfl (lv_at hl 2 rfl) ?_
  refine r_get C hP k 0 hk1 hk0 (by decide) rfl hi0 0 (by decide) (List.mem_of_getElem? (i := 1) rfl) rfl (val := .int (v.1 k 0)) rfl dX0_hearing_9 ?_
  by_cases c_1 : v.1 k 0 = 1
  · refine lv_topE 1 c_1 ?_
    refine lv_tableIn (off := 40) (tgt := 52) C.1.1 C.1.2.1 dX0_hearing_12 (by decide) (by decide) rfl (by decide) ?_
    refine lv_iload_n C.1.1 C.1.2.1 dX0_hearing_52 rfl (lv_at hl 1 rfl) ?_
    exact t_F C rfl hP hS (by simp [hearF, c_1]) rfl dX0_hearing_53
  by_cases c_2 : v.1 k 0 = 2
  · refine lv_topE 2 c_2 ?_
    refine lv_tableIn (off := 42) (tgt := 54) C.1.1 C.1.2.1 dX0_hearing_12 (by decide) (by decide) rfl (by decide) ?_
    refine lv_iconst (v := 2) C.1.1 C.1.2.1 dX0_hearing_54 rfl ?_
    refine lv_iload_n C.1.1 C.1.2.1 dX0_hearing_55 rfl (lv_at hl 3 rfl) ?_
    refine lv_imul C.1.1 C.1.2.1 dX0_hearing_56 ?_
    exact t_F C rfl hP hS (by simp [hearF, c_2]) rfl dX0_hearing_57
  by_cases c_3 : v.1 k 0 = 3
  · refine lv_topE 3 c_3 ?_
    refine lv_tableIn (off := 46) (tgt := 58) C.1.1 C.1.2.1 dX0_hearing_12 (by decide) (by decide) rfl (by decide) ?_
    refine lv_iload_n C.1.1 C.1.2.1 dX0_hearing_58 rfl (lv_at hl 0 rfl) ?_
    exact t_F C rfl hP hS (by simp [hearF, c_3]) rfl dX0_hearing_59
  by_cases c_4 : v.1 k 0 = 4
  · refine lv_topE 4 c_4 ?_
    refine lv_tableIn (off := 48) (tgt := 60) C.1.1 C.1.2.1 dX0_hearing_12 (by decide) (by decide) rfl (by decide) ?_
    refine lv_iload_n C.1.1 C.1.2.1 dX0_hearing_60 rfl (lv_at hl 0 rfl) ?_
    refine lv_aload_n C.1.1 C.1.2.1 dX0_hearing_61 rfl (lv_at hl 2 rfl) ?_
    refine r_get C hP k 0 hk1 hk0 (by decide) rfl hi0 3 (by decide) (List.mem_of_getElem? (i := 2) rfl) rfl (val := .int (v.1 k 3)) rfl dX0_hearing_62 ?_
    refine lv_bipush (v := 50) C.1.1 C.1.2.1 dX0_hearing_65 rfl ?_
    refine lv_icmp_lt (tgt := 74) C.1.1 C.1.2.1 dX0_hearing_67 (by decide) (fun c_5 => ?_) (fun c_5 => ?_)
    · skip
      refine lv_iconst (v := 0) C.1.1 C.1.2.1 dX0_hearing_74 rfl ?_
      refine lv_iadd C.1.1 C.1.2.1 dX0_hearing_75 ?_
      exact t_F C rfl hP hS (by simp [hearF, c_4, c_5]) rfl dX0_hearing_76
    · skip
      refine lv_iconst (v := 1) C.1.1 C.1.2.1 dX0_hearing_70 rfl ?_
      refine lv_goto (tgt := 75) C.1.1 C.1.2.1 dX0_hearing_71 (by decide) ?_
      refine lv_iadd C.1.1 C.1.2.1 dX0_hearing_75 ?_
      exact t_F C rfl hP hS (by simp [hearF, c_4, c_5]) rfl dX0_hearing_76
  by_cases c_6 : v.1 k 0 = 5
  · refine lv_topE 5 c_6 ?_
    refine lv_tableIn (off := 65) (tgt := 77) C.1.1 C.1.2.1 dX0_hearing_12 (by decide) (by decide) rfl (by decide) ?_
    refine lv_iconst (v := 0) C.1.1 C.1.2.1 dX0_hearing_77 rfl ?_
    exact t_F C rfl hP hS (by simp [hearF, c_6]) rfl dX0_hearing_78
  by_cases c_7 : v.1 k 0 = 6
  · refine lv_topE 6 c_7 ?_
    refine lv_tableIn (off := 67) (tgt := 79) C.1.1 C.1.2.1 dX0_hearing_12 (by decide) (by decide) rfl (by decide) ?_
    refine lv_bipush (v := 15) C.1.1 C.1.2.1 dX0_hearing_79 rfl ?_
    exact t_F C rfl hP hS (by simp [hearF, c_7]) rfl dX0_hearing_81
  have hsw : (v.1 k 0).toInt < 1 ∨ 6 < (v.1 k 0).toInt := by
    have qc_1 := lv_neT (a := 1) c_1 rfl
    have qc_2 := lv_neT (a := 2) c_2 rfl
    have qc_3 := lv_neT (a := 3) c_3 rfl
    have qc_4 := lv_neT (a := 4) c_4 rfl
    have qc_6 := lv_neT (a := 5) c_6 rfl
    have qc_7 := lv_neT (a := 6) c_7 rfl
    omega
  refine lv_tableOut (tgt := 82) C.1.1 C.1.2.1 dX0_hearing_12 hsw (by decide) ?_
  refine lv_iload_n C.1.1 C.1.2.1 dX0_hearing_82 rfl (lv_at hl 3 rfl) ?_
  exact t_F C rfl hP hS (by simp [hearF, c_1, c_2, c_3, c_4, c_6, c_7]) rfl dX0_hearing_83

abbrev rmX0_trust : Room := { frames := 0, cells := 0, slots := 0, locals := 0 }
set_option maxHeartbeats 4000000 in
set_option maxRecDepth 100000 in
theorem kX0_trust (l : Launch) (g : GG) (n : Nat) (v : SV) (k : Nat) (hk : k < 64) (hk0 : kd k = 0) : Met l yX0_trust wsX0_trust rmX0_trust (PW g n v [.ref (gA g k)]) (QF g n (trustF (v.1 k)) v) 0 0 (wA g n) := by
  refine Met.begin RX0 rfl (by decide) rfl (Nat.le_of_ble_eq_true rfl) ?_
  intro p e s m args below meth c ls ha C hP hS hl
  have hn : 64 ≤ n := C.2.1.1.2.1
  have hi0 : ∀ w ∈ u_ws RX0 TX0 6, w ∈ wsX0_trust := by decide +kernel
  have hl : lv_has ls 3 [(0, .ref (gA g k))] := hl
  have hk1 : k < n := by omega
  refine lv_bipush (v := 20) C.1.1 C.1.2.1 dX0_trust_0 rfl ?_
  refine lv_istore_n (lv' := [(1, .int 20), (0, .ref (gA g k))]) C.1.1 C.1.2.1 dX0_trust_2 rfl hl (by decide) rfl (fun ls hl => ?_)
  refine lv_iload_n C.1.1 C.1.2.1 dX0_trust_3 rfl (lv_at hl 0 rfl) ?_
  refine lv_bipush (v := 10) C.1.1 C.1.2.1 dX0_trust_4 rfl ?_
  refine lv_isub C.1.1 C.1.2.1 dX0_trust_6 ?_
  refine lv_topE 10 (by decide) ?_
  refine lv_istore_n (lv' := [(2, .int 10), (1, .int 20), (0, .ref (gA g k))]) C.1.1 C.1.2.1 dX0_trust_7 rfl hl (by decide) rfl (fun ls hl => ?_)
  refine lv_aload_n C.1.1 C.1.2.1 dX0_trust_8 rfl (lv_at hl 2 rfl) ?_
  refine r_get C hP k 0 hk1 hk0 (by decide) rfl hi0 0 (by decide) (List.mem_of_getElem? (i := 1) rfl) rfl (val := .int (v.1 k 0)) rfl dX0_trust_9 ?_
  by_cases c_1 : v.1 k 0 = 1
  · refine lv_topE 1 c_1 ?_
    refine lv_tableIn (off := 40) (tgt := 52) C.1.1 C.1.2.1 dX0_trust_12 (by decide) (by decide) rfl (by decide) ?_
    refine lv_iload_n C.1.1 C.1.2.1 dX0_trust_52 rfl (lv_at hl 0 rfl) ?_
    exact t_F C rfl hP hS (by simp [trustF, c_1]) rfl dX0_trust_53
  by_cases c_2 : v.1 k 0 = 2
  · refine lv_topE 2 c_2 ?_
    refine lv_tableIn (off := 67) (tgt := 79) C.1.1 C.1.2.1 dX0_trust_12 (by decide) (by decide) rfl (by decide) ?_
    refine lv_iload_n C.1.1 C.1.2.1 dX0_trust_79 rfl (lv_at hl 1 rfl) ?_
    exact t_F C rfl hP hS (by simp [trustF, c_2]) rfl dX0_trust_80
  by_cases c_3 : v.1 k 0 = 3
  · refine lv_topE 3 c_3 ?_
    refine lv_tableIn (off := 42) (tgt := 54) C.1.1 C.1.2.1 dX0_trust_12 (by decide) (by decide) rfl (by decide) ?_
    refine lv_iload_n C.1.1 C.1.2.1 dX0_trust_54 rfl (lv_at hl 0 rfl) ?_
    refine lv_bipush (v := 30) C.1.1 C.1.2.1 dX0_trust_55 rfl ?_
    refine lv_iadd C.1.1 C.1.2.1 dX0_trust_57 ?_
    refine lv_topE 40 (by decide) ?_
    exact t_F C rfl hP hS (by simp [trustF, c_3]) rfl dX0_trust_58
  by_cases c_4 : v.1 k 0 = 4
  · refine lv_topE 4 c_4 ?_
    refine lv_tableIn (off := 47) (tgt := 59) C.1.1 C.1.2.1 dX0_trust_12 (by decide) (by decide) rfl (by decide) ?_
    refine lv_iconst (v := 0) C.1.1 C.1.2.1 dX0_trust_59 rfl ?_
    exact t_F C rfl hP hS (by simp [trustF, c_4]) rfl dX0_trust_60
  by_cases c_5 : v.1 k 0 = 5
  · refine lv_topE 5 c_5 ?_
    refine lv_tableIn (off := 67) (tgt := 79) C.1.1 C.1.2.1 dX0_trust_12 (by decide) (by decide) rfl (by decide) ?_
    refine lv_iload_n C.1.1 C.1.2.1 dX0_trust_79 rfl (lv_at hl 1 rfl) ?_
    exact t_F C rfl hP hS (by simp [trustF, c_5]) rfl dX0_trust_80
  by_cases c_6 : v.1 k 0 = 6
  · refine lv_topE 6 c_6 ?_
    refine lv_tableIn (off := 49) (tgt := 61) C.1.1 C.1.2.1 dX0_trust_12 (by decide) (by decide) rfl (by decide) ?_
    refine lv_iload_n C.1.1 C.1.2.1 dX0_trust_61 rfl (lv_at hl 1 rfl) ?_
    refine lv_aload_n C.1.1 C.1.2.1 dX0_trust_62 rfl (lv_at hl 2 rfl) ?_
    refine r_get C hP k 0 hk1 hk0 (by decide) rfl hi0 4 (by decide) (List.mem_of_getElem? (i := 2) rfl) rfl (val := .int (v.1 k 4)) rfl dX0_trust_63 ?_
    refine lv_bipush (v := 10) C.1.1 C.1.2.1 dX0_trust_66 rfl ?_
    refine lv_icmp_lt (tgt := 76) C.1.1 C.1.2.1 dX0_trust_68 (by decide) (fun c_7 => ?_) (fun c_7 => ?_)
    · skip
      refine lv_iconst (v := 0) C.1.1 C.1.2.1 dX0_trust_76 rfl ?_
      refine lv_iadd C.1.1 C.1.2.1 dX0_trust_77 ?_
      refine lv_topE 20 (by decide) ?_
      exact t_F C rfl hP hS (by simp [trustF, c_6, c_7]) rfl dX0_trust_78
    · skip
      refine lv_bipush (v := 40) C.1.1 C.1.2.1 dX0_trust_71 rfl ?_
      refine lv_goto (tgt := 77) C.1.1 C.1.2.1 dX0_trust_73 (by decide) ?_
      refine lv_iadd C.1.1 C.1.2.1 dX0_trust_77 ?_
      refine lv_topE 60 (by decide) ?_
      exact t_F C rfl hP hS (by simp [trustF, c_6, c_7]) rfl dX0_trust_78
  have hsw : (v.1 k 0).toInt < 1 ∨ 6 < (v.1 k 0).toInt := by
    have qc_1 := lv_neT (a := 1) c_1 rfl
    have qc_2 := lv_neT (a := 2) c_2 rfl
    have qc_3 := lv_neT (a := 3) c_3 rfl
    have qc_4 := lv_neT (a := 4) c_4 rfl
    have qc_5 := lv_neT (a := 5) c_5 rfl
    have qc_6 := lv_neT (a := 6) c_6 rfl
    omega
  refine lv_tableOut (tgt := 79) C.1.1 C.1.2.1 dX0_trust_12 hsw (by decide) ?_
  refine lv_iload_n C.1.1 C.1.2.1 dX0_trust_79 rfl (lv_at hl 1 rfl) ?_
  exact t_F C rfl hP hS (by simp [trustF, c_1, c_2, c_3, c_4, c_5, c_6]) rfl dX0_trust_80

abbrev rmX0_mending : Room := { frames := 0, cells := 0, slots := 0, locals := 0 }
set_option maxHeartbeats 4000000 in
set_option maxRecDepth 100000 in
theorem kX0_mending (l : Launch) (g : GG) (n : Nat) (v : SV) (k : Nat) (hk : k < 64) (hk0 : kd k = 0) : Met l yX0_mending wsX0_mending rmX0_mending (PW g n v [.ref (gA g k)]) (QF g n (mendF (v.1 k)) v) 0 0 (wA g n) := by
  refine Met.begin RX0 rfl (by decide) rfl (Nat.le_of_ble_eq_true rfl) ?_
  intro p e s m args below meth c ls ha C hP hS hl
  have hn : 64 ≤ n := C.2.1.1.2.1
  have hi0 : ∀ w ∈ u_ws RX0 TX0 6, w ∈ wsX0_mending := by decide +kernel
  have hl : lv_has ls 3 [(0, .ref (gA g k))] := hl
  have hk1 : k < n := by omega
  refine lv_iconst (v := 2) C.1.1 C.1.2.1 dX0_mending_0 rfl ?_
  refine lv_istore_n (lv' := [(1, .int 2), (0, .ref (gA g k))]) C.1.1 C.1.2.1 dX0_mending_1 rfl hl (by decide) rfl (fun ls hl => ?_)
  refine lv_iload_n C.1.1 C.1.2.1 dX0_mending_2 rfl (lv_at hl 0 rfl) ?_
  refine lv_iconst (v := 1) C.1.1 C.1.2.1 dX0_mending_3 rfl ?_
  refine lv_iadd C.1.1 C.1.2.1 dX0_mending_4 ?_
  refine lv_topE 3 (by decide) ?_
  refine lv_istore_n (lv' := [(2, .int 3), (1, .int 2), (0, .ref (gA g k))]) C.1.1 C.1.2.1 dX0_mending_5 rfl hl (by decide) rfl (fun ls hl => ?_)
  refine lv_aload_n C.1.1 C.1.2.1 dX0_mending_6 rfl (lv_at hl 2 rfl) ?_
  refine r_get C hP k 0 hk1 hk0 (by decide) rfl hi0 0 (by decide) (List.mem_of_getElem? (i := 1) rfl) rfl (val := .int (v.1 k 0)) rfl dX0_mending_7 ?_
  by_cases c_1 : v.1 k 0 = 1
  · refine lv_topE 1 c_1 ?_
    refine lv_tableIn (off := 38) (tgt := 48) C.1.1 C.1.2.1 dX0_mending_10 (by decide) (by decide) rfl (by decide) ?_
    refine lv_iload_n C.1.1 C.1.2.1 dX0_mending_48 rfl (lv_at hl 0 rfl) ?_
    exact t_F C rfl hP hS (by simp [mendF, c_1]) rfl dX0_mending_49
  by_cases c_2 : v.1 k 0 = 2
  · refine lv_topE 2 c_2 ?_
    refine lv_tableIn (off := 52) (tgt := 62) C.1.1 C.1.2.1 dX0_mending_10 (by decide) (by decide) rfl (by decide) ?_
    refine lv_iload_n C.1.1 C.1.2.1 dX0_mending_62 rfl (lv_at hl 1 rfl) ?_
    exact t_F C rfl hP hS (by simp [mendF, c_2]) rfl dX0_mending_63
  by_cases c_3 : v.1 k 0 = 3
  · refine lv_topE 3 c_3 ?_
    refine lv_tableIn (off := 40) (tgt := 50) C.1.1 C.1.2.1 dX0_mending_10 (by decide) (by decide) rfl (by decide) ?_
    refine lv_iload_n C.1.1 C.1.2.1 dX0_mending_50 rfl (lv_at hl 0 rfl) ?_
    exact t_F C rfl hP hS (by simp [mendF, c_3]) rfl dX0_mending_51
  by_cases c_4 : v.1 k 0 = 4
  · refine lv_topE 4 c_4 ?_
    refine lv_tableIn (off := 42) (tgt := 52) C.1.1 C.1.2.1 dX0_mending_10 (by decide) (by decide) rfl (by decide) ?_
    refine lv_iconst (v := 2) C.1.1 C.1.2.1 dX0_mending_52 rfl ?_
    refine lv_iload_n C.1.1 C.1.2.1 dX0_mending_53 rfl (lv_at hl 0 rfl) ?_
    refine lv_imul C.1.1 C.1.2.1 dX0_mending_54 ?_
    refine lv_topE 6 (by decide) ?_
    exact t_F C rfl hP hS (by simp [mendF, c_4]) rfl dX0_mending_55
  by_cases c_5 : v.1 k 0 = 5
  · refine lv_topE 5 c_5 ?_
    refine lv_tableIn (off := 46) (tgt := 56) C.1.1 C.1.2.1 dX0_mending_10 (by decide) (by decide) rfl (by decide) ?_
    refine lv_iconst (v := 0) C.1.1 C.1.2.1 dX0_mending_56 rfl ?_
    exact t_F C rfl hP hS (by simp [mendF, c_5]) rfl dX0_mending_57
  by_cases c_6 : v.1 k 0 = 6
  · refine lv_topE 6 c_6 ?_
    refine lv_tableIn (off := 48) (tgt := 58) C.1.1 C.1.2.1 dX0_mending_10 (by decide) (by decide) rfl (by decide) ?_
    refine lv_iload_n C.1.1 C.1.2.1 dX0_mending_58 rfl (lv_at hl 1 rfl) ?_
    refine lv_iconst (v := 3) C.1.1 C.1.2.1 dX0_mending_59 rfl ?_
    refine lv_iadd C.1.1 C.1.2.1 dX0_mending_60 ?_
    refine lv_topE 5 (by decide) ?_
    exact t_F C rfl hP hS (by simp [mendF, c_6]) rfl dX0_mending_61
  have hsw : (v.1 k 0).toInt < 1 ∨ 6 < (v.1 k 0).toInt := by
    have qc_1 := lv_neT (a := 1) c_1 rfl
    have qc_2 := lv_neT (a := 2) c_2 rfl
    have qc_3 := lv_neT (a := 3) c_3 rfl
    have qc_4 := lv_neT (a := 4) c_4 rfl
    have qc_5 := lv_neT (a := 5) c_5 rfl
    have qc_6 := lv_neT (a := 6) c_6 rfl
    omega
  refine lv_tableOut (tgt := 62) C.1.1 C.1.2.1 dX0_mending_10 hsw (by decide) ?_
  refine lv_iload_n C.1.1 C.1.2.1 dX0_mending_62 rfl (lv_at hl 1 rfl) ?_
  exact t_F C rfl hP hS (by simp [mendF, c_1, c_2, c_3, c_4, c_5, c_6]) rfl dX0_mending_63

abbrev rmX0_isTemptedBy : Room := { frames := 0, cells := 0, slots := 0, locals := 0 }
set_option maxHeartbeats 4000000 in
set_option maxRecDepth 100000 in
theorem kX0_isTemptedBy (l : Launch) (g : GG) (n : Nat) (v : SV) (k : Nat) (hk : k < 64) (hk0 : kd k = 0) (x : Int32) : Met l yX0_isTemptedBy wsX0_isTemptedBy rmX0_isTemptedBy (PW g n v [.ref (gA g k), .int x]) (QB g n (temptF (v.1 k) x) v) 0 0 (wA g n) := by
  refine Met.begin RX0 rfl (by decide) rfl (Nat.le_of_ble_eq_true rfl) ?_
  intro p e s m args below meth c ls ha C hP hS hl
  have hn : 64 ≤ n := C.2.1.1.2.1
  have hi0 : ∀ w ∈ u_ws RX0 TX0 6, w ∈ wsX0_isTemptedBy := by decide +kernel
  have hl : lv_has ls 3 [(0, .ref (gA g k)), (1, .int x)] := hl
  have hk1 : k < n := by omega
  refine lv_iload_n C.1.1 C.1.2.1 dX0_isTemptedBy_0 rfl (lv_at hl 1 rfl) ?_
  refine lv_iconst (v := 2) C.1.1 C.1.2.1 dX0_isTemptedBy_1 rfl ?_
  refine lv_irem C.1.1 C.1.2.1 dX0_isTemptedBy_2 (by decide) ?_
  refine lv_if_ne (tgt := 10) C.1.1 C.1.2.1 dX0_isTemptedBy_3 (by decide) (fun c_1 => ?_) (fun c_1 => ?_)
  · skip
    refine lv_iconst (v := 0) C.1.1 C.1.2.1 dX0_isTemptedBy_10 rfl ?_
    refine lv_istore_n (lv' := [(2, .int 0), (0, .ref (gA g k)), (1, .int x)]) C.1.1 C.1.2.1 dX0_isTemptedBy_11 rfl hl (by decide) rfl (fun ls hl => ?_)
    refine lv_aload_n C.1.1 C.1.2.1 dX0_isTemptedBy_12 rfl (lv_at hl 1 rfl) ?_
    refine r_get C hP k 0 hk1 hk0 (by decide) rfl hi0 0 (by decide) (List.mem_of_getElem? (i := 1) rfl) rfl (val := .int (v.1 k 0)) rfl dX0_isTemptedBy_13 ?_
    by_cases c_2 : v.1 k 0 = 2
    · refine lv_topE 2 c_2 ?_
      refine lv_tableIn (off := 36) (tgt := 52) C.1.1 C.1.2.1 dX0_isTemptedBy_16 (by decide) (by decide) rfl (by decide) ?_
      refine lv_iload_n C.1.1 C.1.2.1 dX0_isTemptedBy_52 rfl (lv_at hl 0 rfl) ?_
      exact t_0 C rfl hP hS (by simp [temptF, c_1, c_2]) rfl dX0_isTemptedBy_53
    by_cases c_3 : v.1 k 0 = 3
    · refine lv_topE 3 c_3 ?_
      refine lv_tableIn (off := 38) (tgt := 54) C.1.1 C.1.2.1 dX0_isTemptedBy_16 (by decide) (by decide) rfl (by decide) ?_
      refine lv_iconst (v := 0) C.1.1 C.1.2.1 dX0_isTemptedBy_54 rfl ?_
      exact t_0 C rfl hP hS (by simp [temptF, c_1, c_3]) rfl dX0_isTemptedBy_55
    by_cases c_4 : v.1 k 0 = 4
    · refine lv_topE 4 c_4 ?_
      refine lv_tableIn (off := 40) (tgt := 56) C.1.1 C.1.2.1 dX0_isTemptedBy_16 (by decide) (by decide) rfl (by decide) ?_
      refine lv_aload_n C.1.1 C.1.2.1 dX0_isTemptedBy_56 rfl (lv_at hl 1 rfl) ?_
      refine r_get C hP k 0 hk1 hk0 (by decide) rfl hi0 2 (by decide) (List.mem_of_getElem? (i := 2) rfl) rfl (val := .int (v.1 k 2)) rfl dX0_isTemptedBy_57 ?_
      refine lv_if_ne (tgt := 67) C.1.1 C.1.2.1 dX0_isTemptedBy_60 (by decide) (fun c_5 => ?_) (fun c_5 => ?_)
      · skip
        refine lv_iconst (v := 0) C.1.1 C.1.2.1 dX0_isTemptedBy_67 rfl ?_
        exact t_0 C rfl hP hS (by simp [temptF, c_1, c_4, c_5]) rfl dX0_isTemptedBy_68
      · skip
        refine lv_iconst (v := 1) C.1.1 C.1.2.1 dX0_isTemptedBy_63 rfl ?_
        refine lv_goto (tgt := 68) C.1.1 C.1.2.1 dX0_isTemptedBy_64 (by decide) ?_
        exact t_1 C rfl hP hS (by simp [temptF, c_1, c_4, c_5]) rfl dX0_isTemptedBy_68
    by_cases c_6 : v.1 k 0 = 5
    · refine lv_topE 5 c_6 ?_
      refine lv_tableIn (off := 53) (tgt := 69) C.1.1 C.1.2.1 dX0_isTemptedBy_16 (by decide) (by decide) rfl (by decide) ?_
      refine lv_iconst (v := 0) C.1.1 C.1.2.1 dX0_isTemptedBy_69 rfl ?_
      exact t_0 C rfl hP hS (by simp [temptF, c_1, c_6]) rfl dX0_isTemptedBy_70
    by_cases c_7 : v.1 k 0 = 6
    · refine lv_topE 6 c_7 ?_
      refine lv_tableIn (off := 55) (tgt := 71) C.1.1 C.1.2.1 dX0_isTemptedBy_16 (by decide) (by decide) rfl (by decide) ?_
      refine lv_iload_n C.1.1 C.1.2.1 dX0_isTemptedBy_71 rfl (lv_at hl 0 rfl) ?_
      refine lv_if_ne (tgt := 81) C.1.1 C.1.2.1 dX0_isTemptedBy_72 (by decide) (fun c_8 => absurd c_8 (by decide)) (fun _ => ?_)
      refine lv_iload_n C.1.1 C.1.2.1 dX0_isTemptedBy_75 rfl (lv_at hl 2 rfl) ?_
      refine lv_bipush (v := 11) C.1.1 C.1.2.1 dX0_isTemptedBy_76 rfl ?_
      refine lv_icmp_ne (tgt := 85) C.1.1 C.1.2.1 dX0_isTemptedBy_78 (by decide) (fun c_9 => ?_) (fun c_9 => ?_)
      · skip
        refine lv_iconst (v := 0) C.1.1 C.1.2.1 dX0_isTemptedBy_85 rfl ?_
        exact t_0 C rfl hP hS (by simp [temptF, c_1, c_7, c_9]) rfl dX0_isTemptedBy_86
      · skip
        refine lv_iconst (v := 1) C.1.1 C.1.2.1 dX0_isTemptedBy_81 rfl ?_
        refine lv_goto (tgt := 86) C.1.1 C.1.2.1 dX0_isTemptedBy_82 (by decide) ?_
        exact t_1 C rfl hP hS (by simp [temptF, c_1, c_7, c_9]) rfl dX0_isTemptedBy_86
    have hsw : (v.1 k 0).toInt < 2 ∨ 6 < (v.1 k 0).toInt := by
      have qc_2 := lv_neT (a := 2) c_2 rfl
      have qc_3 := lv_neT (a := 3) c_3 rfl
      have qc_4 := lv_neT (a := 4) c_4 rfl
      have qc_6 := lv_neT (a := 5) c_6 rfl
      have qc_7 := lv_neT (a := 6) c_7 rfl
      omega
    refine lv_tableOut (tgt := 87) C.1.1 C.1.2.1 dX0_isTemptedBy_16 hsw (by decide) ?_
    refine lv_aload_n C.1.1 C.1.2.1 dX0_isTemptedBy_87 rfl (lv_at hl 1 rfl) ?_
    refine r_get C hP k 0 hk1 hk0 (by decide) rfl hi0 3 (by decide) (List.mem_of_getElem? (i := 3) rfl) rfl (val := .int (v.1 k 3)) rfl dX0_isTemptedBy_88 ?_
    refine lv_bipush (v := 80) C.1.1 C.1.2.1 dX0_isTemptedBy_91 rfl ?_
    refine lv_icmp_lt (tgt := 100) C.1.1 C.1.2.1 dX0_isTemptedBy_93 (by decide) (fun c_10 => ?_) (fun c_10 => ?_)
    · skip
      refine lv_iconst (v := 0) C.1.1 C.1.2.1 dX0_isTemptedBy_100 rfl ?_
      exact t_0 C rfl hP hS (by simp [temptF, c_1, c_2, c_3, c_4, c_6, c_7, c_10]) rfl dX0_isTemptedBy_101
    · skip
      refine lv_iconst (v := 1) C.1.1 C.1.2.1 dX0_isTemptedBy_96 rfl ?_
      refine lv_goto (tgt := 101) C.1.1 C.1.2.1 dX0_isTemptedBy_97 (by decide) ?_
      exact t_1 C rfl hP hS (by simp [temptF, c_1, c_2, c_3, c_4, c_6, c_7, c_10]; exact fa_nlt c_10) rfl dX0_isTemptedBy_101
  · skip
    refine lv_iconst (v := 1) C.1.1 C.1.2.1 dX0_isTemptedBy_6 rfl ?_
    refine lv_goto (tgt := 11) C.1.1 C.1.2.1 dX0_isTemptedBy_7 (by decide) ?_
    refine lv_istore_n (lv' := [(2, .int 1), (0, .ref (gA g k)), (1, .int x)]) C.1.1 C.1.2.1 dX0_isTemptedBy_11 rfl hl (by decide) rfl (fun ls hl => ?_)
    refine lv_aload_n C.1.1 C.1.2.1 dX0_isTemptedBy_12 rfl (lv_at hl 1 rfl) ?_
    refine r_get C hP k 0 hk1 hk0 (by decide) rfl hi0 0 (by decide) (List.mem_of_getElem? (i := 1) rfl) rfl (val := .int (v.1 k 0)) rfl dX0_isTemptedBy_13 ?_
    by_cases c_11 : v.1 k 0 = 2
    · refine lv_topE 2 c_11 ?_
      refine lv_tableIn (off := 36) (tgt := 52) C.1.1 C.1.2.1 dX0_isTemptedBy_16 (by decide) (by decide) rfl (by decide) ?_
      refine lv_iload_n C.1.1 C.1.2.1 dX0_isTemptedBy_52 rfl (lv_at hl 0 rfl) ?_
      exact t_1 C rfl hP hS (by simp [temptF, c_1, c_11]) rfl dX0_isTemptedBy_53
    by_cases c_12 : v.1 k 0 = 3
    · refine lv_topE 3 c_12 ?_
      refine lv_tableIn (off := 38) (tgt := 54) C.1.1 C.1.2.1 dX0_isTemptedBy_16 (by decide) (by decide) rfl (by decide) ?_
      refine lv_iconst (v := 0) C.1.1 C.1.2.1 dX0_isTemptedBy_54 rfl ?_
      exact t_0 C rfl hP hS (by simp [temptF, c_1, c_12]) rfl dX0_isTemptedBy_55
    by_cases c_13 : v.1 k 0 = 4
    · refine lv_topE 4 c_13 ?_
      refine lv_tableIn (off := 40) (tgt := 56) C.1.1 C.1.2.1 dX0_isTemptedBy_16 (by decide) (by decide) rfl (by decide) ?_
      refine lv_aload_n C.1.1 C.1.2.1 dX0_isTemptedBy_56 rfl (lv_at hl 1 rfl) ?_
      refine r_get C hP k 0 hk1 hk0 (by decide) rfl hi0 2 (by decide) (List.mem_of_getElem? (i := 2) rfl) rfl (val := .int (v.1 k 2)) rfl dX0_isTemptedBy_57 ?_
      refine lv_if_ne (tgt := 67) C.1.1 C.1.2.1 dX0_isTemptedBy_60 (by decide) (fun c_14 => ?_) (fun c_14 => ?_)
      · skip
        refine lv_iconst (v := 0) C.1.1 C.1.2.1 dX0_isTemptedBy_67 rfl ?_
        exact t_0 C rfl hP hS (by simp [temptF, c_1, c_13, c_14]) rfl dX0_isTemptedBy_68
      · skip
        refine lv_iconst (v := 1) C.1.1 C.1.2.1 dX0_isTemptedBy_63 rfl ?_
        refine lv_goto (tgt := 68) C.1.1 C.1.2.1 dX0_isTemptedBy_64 (by decide) ?_
        exact t_1 C rfl hP hS (by simp [temptF, c_1, c_13, c_14]) rfl dX0_isTemptedBy_68
    by_cases c_15 : v.1 k 0 = 5
    · refine lv_topE 5 c_15 ?_
      refine lv_tableIn (off := 53) (tgt := 69) C.1.1 C.1.2.1 dX0_isTemptedBy_16 (by decide) (by decide) rfl (by decide) ?_
      refine lv_iconst (v := 0) C.1.1 C.1.2.1 dX0_isTemptedBy_69 rfl ?_
      exact t_0 C rfl hP hS (by simp [temptF, c_1, c_15]) rfl dX0_isTemptedBy_70
    by_cases c_16 : v.1 k 0 = 6
    · refine lv_topE 6 c_16 ?_
      refine lv_tableIn (off := 55) (tgt := 71) C.1.1 C.1.2.1 dX0_isTemptedBy_16 (by decide) (by decide) rfl (by decide) ?_
      refine lv_iload_n C.1.1 C.1.2.1 dX0_isTemptedBy_71 rfl (lv_at hl 0 rfl) ?_
      refine lv_if_ne (tgt := 81) C.1.1 C.1.2.1 dX0_isTemptedBy_72 (by decide) (fun _ => ?_) (fun c_17 => absurd c_17 (by decide))
      refine lv_iconst (v := 1) C.1.1 C.1.2.1 dX0_isTemptedBy_81 rfl ?_
      refine lv_goto (tgt := 86) C.1.1 C.1.2.1 dX0_isTemptedBy_82 (by decide) ?_
      exact t_1 C rfl hP hS (by simp [temptF, c_1, c_16]) rfl dX0_isTemptedBy_86
    have hsw : (v.1 k 0).toInt < 2 ∨ 6 < (v.1 k 0).toInt := by
      have qc_11 := lv_neT (a := 2) c_11 rfl
      have qc_12 := lv_neT (a := 3) c_12 rfl
      have qc_13 := lv_neT (a := 4) c_13 rfl
      have qc_15 := lv_neT (a := 5) c_15 rfl
      have qc_16 := lv_neT (a := 6) c_16 rfl
      omega
    refine lv_tableOut (tgt := 87) C.1.1 C.1.2.1 dX0_isTemptedBy_16 hsw (by decide) ?_
    refine lv_aload_n C.1.1 C.1.2.1 dX0_isTemptedBy_87 rfl (lv_at hl 1 rfl) ?_
    refine r_get C hP k 0 hk1 hk0 (by decide) rfl hi0 3 (by decide) (List.mem_of_getElem? (i := 3) rfl) rfl (val := .int (v.1 k 3)) rfl dX0_isTemptedBy_88 ?_
    refine lv_bipush (v := 80) C.1.1 C.1.2.1 dX0_isTemptedBy_91 rfl ?_
    refine lv_icmp_lt (tgt := 100) C.1.1 C.1.2.1 dX0_isTemptedBy_93 (by decide) (fun c_18 => ?_) (fun c_18 => ?_)
    · skip
      refine lv_iconst (v := 0) C.1.1 C.1.2.1 dX0_isTemptedBy_100 rfl ?_
      exact t_0 C rfl hP hS (by simp [temptF, c_1, c_11, c_12, c_13, c_15, c_16, c_18]) rfl dX0_isTemptedBy_101
    · skip
      refine lv_iconst (v := 1) C.1.1 C.1.2.1 dX0_isTemptedBy_96 rfl ?_
      refine lv_goto (tgt := 101) C.1.1 C.1.2.1 dX0_isTemptedBy_97 (by decide) ?_
      exact t_1 C rfl hP hS (by simp [temptF, c_1, c_11, c_12, c_13, c_15, c_16, c_18]; exact fa_nlt c_18) rfl dX0_isTemptedBy_101

abbrev rmX0_farFrom : Room := { frames := 1, cells := 0, slots := 0, locals := 24 }
set_option maxHeartbeats 4000000 in
set_option maxRecDepth 100000 in
theorem kX0_farFrom (l : Launch) (g : GG) (n : Nat) (v : SV) (k : Nat) (hk : k < 64) (hk0 : kd k = 0) (x : Int32) : Met l yX0_farFrom wsX0_farFrom rmX0_farFrom (PW g n v [.ref (gA g k), .int x]) (QF g n (sizeF ((v.1 k) 1 - x)) v) 0 0 (wA g n) := by
  refine Met.begin RX0 rfl (by decide) rfl (Nat.le_of_ble_eq_true rfl) ?_
  intro p e s m args below meth c ls ha C hP hS hl
  have hn : 64 ≤ n := C.2.1.1.2.1
  have hi0 : ∀ w ∈ u_ws RX0 TX0 6, w ∈ wsX0_farFrom := by decide +kernel
  have hl : lv_has ls 2 [(0, .ref (gA g k)), (1, .int x)] := hl
  have hk1 : k < n := by omega
  refine lv_aload_n C.1.1 C.1.2.1 dX0_farFrom_0 rfl (lv_at hl 0 rfl) ?_
  refine r_get C hP k 0 hk1 hk0 (by decide) rfl hi0 1 (by decide) (List.mem_of_getElem? (i := 1) rfl) rfl (val := .int (v.1 k 1)) rfl dX0_farFrom_1 ?_
  refine lv_iload_n C.1.1 C.1.2.1 dX0_farFrom_4 rfl (lv_at hl 1 rfl) ?_
  refine lv_isub C.1.1 C.1.2.1 dX0_farFrom_5 ?_
  refine va_mabs C.1.1 C.1.2.1 (C.1.2.2.1.trans hl.1.symm) C.1.2.2.2.1 (C.1.2.2.2.2 _ (List.mem_of_getElem? (i := 2) rfl)) (C.1.2.2.2.2 _ (List.mem_of_getElem? (i := 3) rfl)) (C.1.2.2.2.2 _ (List.mem_of_getElem? (i := 4) rfl)) (C.1.2.2.2.2 _ (List.mem_of_getElem? (i := 5) rfl)) (Nat.le_of_ble_eq_true rfl) (Nat.le_of_ble_eq_true rfl) (Nat.le_refl _) (Nat.le_refl _) dX0_farFrom_6 ?_
  exact t_F C rfl hP hS (by unfold sizeF; rw [i0_sub]) rfl dX0_farFrom_9

abbrev rmX0_isFor : Room := { frames := 0, cells := 0, slots := 0, locals := 0 }
set_option maxHeartbeats 4000000 in
set_option maxRecDepth 100000 in
theorem kX0_isFor (l : Launch) (g : GG) (n : Nat) (v : SV) (k : Nat) (hk : k < 64) (hk0 : kd k = 0) (x : Int32) : Met l yX0_isFor wsX0_isFor rmX0_isFor (PW g n v [.ref (gA g k), .int x]) (QB g n (wantF (v.1 k) x) v) 0 0 (wA g n) := by
  refine Met.begin RX0 rfl (by decide) rfl (Nat.le_of_ble_eq_true rfl) ?_
  intro p e s m args below meth c ls ha C hP hS hl
  have hn : 64 ≤ n := C.2.1.1.2.1
  have hi0 : ∀ w ∈ u_ws RX0 TX0 6, w ∈ wsX0_isFor := by decide +kernel
  have hl : lv_has ls 2 [(0, .ref (gA g k)), (1, .int x)] := hl
  have hk1 : k < n := by omega
  refine lv_aload_n C.1.1 C.1.2.1 dX0_isFor_0 rfl (lv_at hl 0 rfl) ?_
  refine r_get C hP k 0 hk1 hk0 (by decide) rfl hi0 2 (by decide) (List.mem_of_getElem? (i := 1) rfl) rfl (val := .int (v.1 k 2)) rfl dX0_isFor_1 ?_
  refine lv_iload_n C.1.1 C.1.2.1 dX0_isFor_4 rfl (lv_at hl 1 rfl) ?_
  refine lv_ishr C.1.1 C.1.2.1 dX0_isFor_5 ?_
  refine lv_iconst (v := 1) C.1.1 C.1.2.1 dX0_isFor_6 rfl ?_
  refine lv_iand C.1.1 C.1.2.1 dX0_isFor_7 ?_
  refine lv_iconst (v := 1) C.1.1 C.1.2.1 dX0_isFor_8 rfl ?_
  refine lv_icmp_ne (tgt := 16) C.1.1 C.1.2.1 dX0_isFor_9 (by decide) (fun c_1 => ?_) (fun c_1 => ?_)
  · skip
    refine lv_iconst (v := 0) C.1.1 C.1.2.1 dX0_isFor_16 rfl ?_
    exact t_0 C rfl hP hS (by assumption) rfl dX0_isFor_17
  · skip
    refine lv_iconst (v := 1) C.1.1 C.1.2.1 dX0_isFor_12 rfl ?_
    refine lv_goto (tgt := 17) C.1.1 C.1.2.1 dX0_isFor_13 (by decide) ?_
    exact t_1 C rfl hP hS (by assumption) rfl dX0_isFor_17

abbrev rmJ6_bitCount_0f7a4 : Room := { frames := 0, cells := 0, slots := 0, locals := 0 }
set_option maxHeartbeats 4000000 in
set_option maxRecDepth 100000 in
theorem kJ6_bitCount_0f7a4 (l : Launch) (g : GG) (n : Nat) (v : SV) (x : Int32) : Met l yJ6_bitCount_0f7a4 wsJ6_bitCount_0f7a4 rmJ6_bitCount_0f7a4 (PW g n v [.int x]) (QF g n (popF x) v) 0 0 (wA g n) := by
  refine Met.begin RJ6 rfl (by decide) rfl (Nat.le_of_ble_eq_true rfl) ?_
  intro p e s m args below meth c ls ha C hP hS hl
  have hn : 64 ≤ n := C.2.1.1.2.1
  have hl : lv_has ls 1 [(0, .int x)] := hl
  refine lv_iload_n C.1.1 C.1.2.1 dJ6_bitCount_0f7a4_0 rfl (lv_at hl 0 rfl) ?_
  refine lv_iload_n C.1.1 C.1.2.1 dJ6_bitCount_0f7a4_1 rfl (lv_at hl 0 rfl) ?_
  refine lv_iconst (v := 1) C.1.1 C.1.2.1 dJ6_bitCount_0f7a4_2 rfl ?_
  refine lv_iushr (v := (x.toUInt32 >>> ((1 : Int32).toUInt32 &&& Int32.toUInt32 31)).toInt32) C.1.1 C.1.2.1 dJ6_bitCount_0f7a4_3 rfl ?_
  refine lv_ldcw (v := 1431655765) C.1.1 C.1.2.1 C.1.2.2.2.1 (C.1.2.2.2.2 _ (List.mem_of_getElem? (i := 1) rfl)) dJ6_bitCount_0f7a4_4 ?_
  refine lv_iand C.1.1 C.1.2.1 dJ6_bitCount_0f7a4_7 ?_
  refine lv_isub C.1.1 C.1.2.1 dJ6_bitCount_0f7a4_8 ?_
  refine lv_topi (fun x1 ex1 => ?_)
  refine lv_istore_n (lv' := [(0, .int x1)]) C.1.1 C.1.2.1 dJ6_bitCount_0f7a4_9 rfl hl (by decide) rfl (fun ls hl => ?_)
  refine lv_iload_n C.1.1 C.1.2.1 dJ6_bitCount_0f7a4_10 rfl (lv_at hl 0 rfl) ?_
  refine lv_ldcw (v := 858993459) C.1.1 C.1.2.1 C.1.2.2.2.1 (C.1.2.2.2.2 _ (List.mem_of_getElem? (i := 2) rfl)) dJ6_bitCount_0f7a4_11 ?_
  refine lv_iand C.1.1 C.1.2.1 dJ6_bitCount_0f7a4_14 ?_
  refine lv_iload_n C.1.1 C.1.2.1 dJ6_bitCount_0f7a4_15 rfl (lv_at hl 0 rfl) ?_
  refine lv_iconst (v := 2) C.1.1 C.1.2.1 dJ6_bitCount_0f7a4_16 rfl ?_
  refine lv_iushr (v := (x1.toUInt32 >>> ((2 : Int32).toUInt32 &&& Int32.toUInt32 31)).toInt32) C.1.1 C.1.2.1 dJ6_bitCount_0f7a4_17 rfl ?_
  refine lv_ldcw (v := 858993459) C.1.1 C.1.2.1 C.1.2.2.2.1 (C.1.2.2.2.2 _ (List.mem_of_getElem? (i := 2) rfl)) dJ6_bitCount_0f7a4_18 ?_
  refine lv_iand C.1.1 C.1.2.1 dJ6_bitCount_0f7a4_21 ?_
  refine lv_iadd C.1.1 C.1.2.1 dJ6_bitCount_0f7a4_22 ?_
  refine lv_topi (fun x2 ex2 => ?_)
  refine lv_istore_n (lv' := [(0, .int x2)]) C.1.1 C.1.2.1 dJ6_bitCount_0f7a4_23 rfl hl (by decide) rfl (fun ls hl => ?_)
  refine lv_iload_n C.1.1 C.1.2.1 dJ6_bitCount_0f7a4_24 rfl (lv_at hl 0 rfl) ?_
  refine lv_iload_n C.1.1 C.1.2.1 dJ6_bitCount_0f7a4_25 rfl (lv_at hl 0 rfl) ?_
  refine lv_iconst (v := 4) C.1.1 C.1.2.1 dJ6_bitCount_0f7a4_26 rfl ?_
  refine lv_iushr (v := (x2.toUInt32 >>> ((4 : Int32).toUInt32 &&& Int32.toUInt32 31)).toInt32) C.1.1 C.1.2.1 dJ6_bitCount_0f7a4_27 rfl ?_
  refine lv_iadd C.1.1 C.1.2.1 dJ6_bitCount_0f7a4_28 ?_
  refine lv_ldcw (v := 252645135) C.1.1 C.1.2.1 C.1.2.2.2.1 (C.1.2.2.2.2 _ (List.mem_of_getElem? (i := 3) rfl)) dJ6_bitCount_0f7a4_29 ?_
  refine lv_iand C.1.1 C.1.2.1 dJ6_bitCount_0f7a4_32 ?_
  refine lv_topi (fun x3 ex3 => ?_)
  refine lv_istore_n (lv' := [(0, .int x3)]) C.1.1 C.1.2.1 dJ6_bitCount_0f7a4_33 rfl hl (by decide) rfl (fun ls hl => ?_)
  refine lv_iload_n C.1.1 C.1.2.1 dJ6_bitCount_0f7a4_34 rfl (lv_at hl 0 rfl) ?_
  refine lv_iload_n C.1.1 C.1.2.1 dJ6_bitCount_0f7a4_35 rfl (lv_at hl 0 rfl) ?_
  refine lv_bipush (v := 8) C.1.1 C.1.2.1 dJ6_bitCount_0f7a4_36 rfl ?_
  refine lv_iushr (v := (x3.toUInt32 >>> ((8 : Int32).toUInt32 &&& Int32.toUInt32 31)).toInt32) C.1.1 C.1.2.1 dJ6_bitCount_0f7a4_38 rfl ?_
  refine lv_iadd C.1.1 C.1.2.1 dJ6_bitCount_0f7a4_39 ?_
  refine lv_topi (fun x4 ex4 => ?_)
  refine lv_istore_n (lv' := [(0, .int x4)]) C.1.1 C.1.2.1 dJ6_bitCount_0f7a4_40 rfl hl (by decide) rfl (fun ls hl => ?_)
  refine lv_iload_n C.1.1 C.1.2.1 dJ6_bitCount_0f7a4_41 rfl (lv_at hl 0 rfl) ?_
  refine lv_iload_n C.1.1 C.1.2.1 dJ6_bitCount_0f7a4_42 rfl (lv_at hl 0 rfl) ?_
  refine lv_bipush (v := 16) C.1.1 C.1.2.1 dJ6_bitCount_0f7a4_43 rfl ?_
  refine lv_iushr (v := (x4.toUInt32 >>> ((16 : Int32).toUInt32 &&& Int32.toUInt32 31)).toInt32) C.1.1 C.1.2.1 dJ6_bitCount_0f7a4_45 rfl ?_
  refine lv_iadd C.1.1 C.1.2.1 dJ6_bitCount_0f7a4_46 ?_
  refine lv_topi (fun x5 ex5 => ?_)
  refine lv_istore_n (lv' := [(0, .int x5)]) C.1.1 C.1.2.1 dJ6_bitCount_0f7a4_47 rfl hl (by decide) rfl (fun ls hl => ?_)
  refine lv_iload_n C.1.1 C.1.2.1 dJ6_bitCount_0f7a4_48 rfl (lv_at hl 0 rfl) ?_
  refine lv_bipush (v := 63) C.1.1 C.1.2.1 dJ6_bitCount_0f7a4_49 rfl ?_
  refine lv_iand C.1.1 C.1.2.1 dJ6_bitCount_0f7a4_51 ?_
  exact t_F C rfl hP hS (by subst ex5 ex4 ex3 ex2 ex1; rfl) rfl dJ6_bitCount_0f7a4_52

abbrev rmX0_loss : Room := { frames := 1, cells := 0, slots := 0, locals := 20 }
set_option maxHeartbeats 4000000 in
set_option maxRecDepth 100000 in
theorem kX0_loss (l : Launch) (g : GG) (n : Nat) (v : SV) (k : Nat) (hk : k < 64) (hk0 : kd k = 0) (hw : ∃ w : Nat, w < 4096 ∧ v.1 k 2 = nI w) : Met l yX0_loss wsX0_loss rmX0_loss (PW g n v [.ref (gA g k)]) (QF g n (loseF (v.1 k)) v) 0 0 (wA g n) := by
  refine Met.begin RX0 rfl (by decide) rfl (Nat.le_of_ble_eq_true rfl) ?_
  intro p e s m args below meth c ls ha C hP hS hl
  have hn : 64 ≤ n := C.2.1.1.2.1
  have hi0 : ∀ w ∈ u_ws RX0 TX0 6, w ∈ wsX0_loss := by decide +kernel
  have hl : lv_has ls 4 [(0, .ref (gA g k))] := hl
  have hk1 : k < n := by omega
  have hpo := pop_onesE hw
  refine lv_bipush (v := 8) C.1.1 C.1.2.1 dX0_loss_0 rfl ?_
  refine lv_istore_n (lv' := [(1, .int 8), (0, .ref (gA g k))]) C.1.1 C.1.2.1 dX0_loss_2 rfl hl (by decide) rfl (fun ls hl => ?_)
  refine lv_iload_n C.1.1 C.1.2.1 dX0_loss_3 rfl (lv_at hl 0 rfl) ?_
  refine lv_iconst (v := 3) C.1.1 C.1.2.1 dX0_loss_4 rfl ?_
  refine lv_isub C.1.1 C.1.2.1 dX0_loss_5 ?_
  refine lv_topE 5 (by decide) ?_
  refine lv_istore_n (lv' := [(2, .int 5), (1, .int 8), (0, .ref (gA g k))]) C.1.1 C.1.2.1 dX0_loss_6 rfl hl (by decide) rfl (fun ls hl => ?_)
  refine lv_iconst (v := 2) C.1.1 C.1.2.1 dX0_loss_7 rfl ?_
  refine lv_iload_n C.1.1 C.1.2.1 dX0_loss_8 rfl (lv_at hl 1 rfl) ?_
  refine lv_imul C.1.1 C.1.2.1 dX0_loss_9 ?_
  refine lv_topE 16 (by decide) ?_
  refine lv_istore_n (lv' := [(3, .int 16), (2, .int 5), (1, .int 8), (0, .ref (gA g k))]) C.1.1 C.1.2.1 dX0_loss_10 rfl hl (by decide) rfl (fun ls hl => ?_)
  refine lv_aload_n C.1.1 C.1.2.1 dX0_loss_11 rfl (lv_at hl 3 rfl) ?_
  refine r_get C hP k 0 hk1 hk0 (by decide) rfl hi0 0 (by decide) (List.mem_of_getElem? (i := 1) rfl) rfl (val := .int (v.1 k 0)) rfl dX0_loss_12 ?_
  by_cases c_1 : v.1 k 0 = 1
  · refine lv_topE 1 c_1 ?_
    refine lv_tableIn (off := 37) (tgt := 52) C.1.1 C.1.2.1 dX0_loss_15 (by decide) (by decide) rfl (by decide) ?_
    refine lv_iload_n C.1.1 C.1.2.1 dX0_loss_52 rfl (lv_at hl 1 rfl) ?_
    exact t_F C rfl hP hS (by simp [loseF, hpo, c_1]) rfl dX0_loss_53
  by_cases c_2 : v.1 k 0 = 2
  · refine lv_topE 2 c_2 ?_
    refine lv_tableIn (off := 39) (tgt := 54) C.1.1 C.1.2.1 dX0_loss_15 (by decide) (by decide) rfl (by decide) ?_
    refine lv_iload_n C.1.1 C.1.2.1 dX0_loss_54 rfl (lv_at hl 0 rfl) ?_
    exact t_F C rfl hP hS (by simp [loseF, hpo, c_2]) rfl dX0_loss_55
  by_cases c_3 : v.1 k 0 = 3
  · refine lv_topE 3 c_3 ?_
    refine lv_tableIn (off := 41) (tgt := 56) C.1.1 C.1.2.1 dX0_loss_15 (by decide) (by decide) rfl (by decide) ?_
    refine lv_iload_n C.1.1 C.1.2.1 dX0_loss_56 rfl (lv_at hl 1 rfl) ?_
    exact t_F C rfl hP hS (by simp [loseF, hpo, c_3]) rfl dX0_loss_57
  by_cases c_4 : v.1 k 0 = 4
  · refine lv_topE 4 c_4 ?_
    refine lv_tableIn (off := 43) (tgt := 58) C.1.1 C.1.2.1 dX0_loss_15 (by decide) (by decide) rfl (by decide) ?_
    refine lv_iconst (v := 1) C.1.1 C.1.2.1 dX0_loss_58 rfl ?_
    exact t_F C rfl hP hS (by simp [loseF, hpo, c_4]) rfl dX0_loss_59
  by_cases c_5 : v.1 k 0 = 5
  · refine lv_topE 5 c_5 ?_
    refine lv_tableIn (off := 45) (tgt := 60) C.1.1 C.1.2.1 dX0_loss_15 (by decide) (by decide) rfl (by decide) ?_
    refine lv_iload_n C.1.1 C.1.2.1 dX0_loss_60 rfl (lv_at hl 2 rfl) ?_
    refine lv_aload_n C.1.1 C.1.2.1 dX0_loss_61 rfl (lv_at hl 3 rfl) ?_
    refine r_get C hP k 0 hk1 hk0 (by decide) rfl hi0 2 (by decide) (List.mem_of_getElem? (i := 2) rfl) rfl (val := .int (v.1 k 2)) rfl dX0_loss_62 ?_
    refine a_F hS (run_S C hP hS hl.1 [.int (v.1 k 2)] (kJ6_bitCount_0f7a4 l g n v (v.1 k 2)) gX0_loss_J6_bitCount_0f7a4 hdJ6_bitCount_0f7a4 rfl ⟨rfl, rfl⟩ ⟨Nat.le_of_ble_eq_true rfl, Nat.le_of_ble_eq_true rfl⟩ rfl [.int 8] rfl (Nat.le_of_ble_eq_true rfl) dX0_loss_65 ⟨Nat.zero_le _, Nat.zero_le _⟩) (fun H locs hP hS => ?_)
    refine lv_iadd C.1.1 C.1.2.1 dX0_loss_68 ?_
    exact t_F C rfl hP hS (by simp [loseF, hpo, c_5]) rfl dX0_loss_69
  by_cases c_6 : v.1 k 0 = 6
  · refine lv_topE 6 c_6 ?_
    refine lv_tableIn (off := 55) (tgt := 70) C.1.1 C.1.2.1 dX0_loss_15 (by decide) (by decide) rfl (by decide) ?_
    refine lv_iload_n C.1.1 C.1.2.1 dX0_loss_70 rfl (lv_at hl 0 rfl) ?_
    refine lv_bipush (v := 6) C.1.1 C.1.2.1 dX0_loss_71 rfl ?_
    refine lv_isub C.1.1 C.1.2.1 dX0_loss_73 ?_
    refine lv_topE 10 (by decide) ?_
    exact t_F C rfl hP hS (by simp [loseF, hpo, c_6]) rfl dX0_loss_74
  have hsw : (v.1 k 0).toInt < 1 ∨ 6 < (v.1 k 0).toInt := by
    have qc_1 := lv_neT (a := 1) c_1 rfl
    have qc_2 := lv_neT (a := 2) c_2 rfl
    have qc_3 := lv_neT (a := 3) c_3 rfl
    have qc_4 := lv_neT (a := 4) c_4 rfl
    have qc_5 := lv_neT (a := 5) c_5 rfl
    have qc_6 := lv_neT (a := 6) c_6 rfl
    omega
  refine lv_tableOut (tgt := 75) C.1.1 C.1.2.1 dX0_loss_15 hsw (by decide) ?_
  refine lv_iload_n C.1.1 C.1.2.1 dX0_loss_75 rfl (lv_at hl 2 rfl) ?_
  exact t_F C rfl hP hS (by simp [loseF, hpo, c_1, c_2, c_3, c_4, c_5, c_6]) rfl dX0_loss_76

abbrev rmX0_tell : Room := { frames := 2, cells := 0, slots := 0, locals := 45 }
set_option maxHeartbeats 4000000 in
set_option maxRecDepth 100000 in
theorem kX0_tell (l : Launch) (g : GG) (n : Nat) (v : SV) (k : Nat) (hk : k < 64) (hk0 : kd k = 0) (x y z : Int32) (hw : ∃ w : Nat, w < 4096 ∧ v.1 k 2 = nI w) : Met l yX0_tell wsX0_tell rmX0_tell (PW g n v [.ref (gA g k), .int x, .int y, .int z]) (QF g n (tellF (v.1 k) x y z) v) 0 0 (wA g n) := by
  refine Met.begin RX0 rfl (by decide) rfl (Nat.le_of_ble_eq_true rfl) ?_
  intro p e s m args below meth c ls ha C hP hS hl
  have hn : 64 ≤ n := C.2.1.1.2.1
  have hi0 : ∀ w ∈ u_ws RX0 TX0 6, w ∈ wsX0_tell := by decide +kernel
  have hl : lv_has ls 4 [(0, .ref (gA g k)), (1, .int x), (2, .int y), (3, .int z)] := hl
  have hk1 : k < n := by omega
  refine lv_iload_n C.1.1 C.1.2.1 dX0_tell_0 rfl (lv_at hl 1 rfl) ?_
  by_cases c_1 : x = 0
  · refine lv_topE 0 c_1 ?_
    refine lv_tableIn (off := 55) (tgt := 56) C.1.1 C.1.2.1 dX0_tell_1 (by decide) (by decide) rfl (by decide) ?_
    refine lv_aload_n C.1.1 C.1.2.1 dX0_tell_56 rfl (lv_at hl 0 rfl) ?_
    refine r_get C hP k 0 hk1 hk0 (by decide) rfl hi0 0 (by decide) (List.mem_of_getElem? (i := 1) rfl) rfl (val := .int (v.1 k 0)) rfl dX0_tell_57 ?_
    exact t_F C rfl hP hS (by simp [tellF, c_1]) rfl dX0_tell_60
  by_cases c_2 : x = 1
  · refine lv_topE 1 c_2 ?_
    refine lv_tableIn (off := 60) (tgt := 61) C.1.1 C.1.2.1 dX0_tell_1 (by decide) (by decide) rfl (by decide) ?_
    refine lv_aload_n C.1.1 C.1.2.1 dX0_tell_61 rfl (lv_at hl 0 rfl) ?_
    refine r_get C hP k 0 hk1 hk0 (by decide) rfl hi0 1 (by decide) (List.mem_of_getElem? (i := 2) rfl) rfl (val := .int (v.1 k 1)) rfl dX0_tell_62 ?_
    exact t_F C rfl hP hS (by simp [tellF, c_2]) rfl dX0_tell_65
  by_cases c_3 : x = 2
  · refine lv_topE 2 c_3 ?_
    refine lv_tableIn (off := 65) (tgt := 66) C.1.1 C.1.2.1 dX0_tell_1 (by decide) (by decide) rfl (by decide) ?_
    refine lv_aload_n C.1.1 C.1.2.1 dX0_tell_66 rfl (lv_at hl 0 rfl) ?_
    refine r_get C hP k 0 hk1 hk0 (by decide) rfl hi0 2 (by decide) (List.mem_of_getElem? (i := 3) rfl) rfl (val := .int (v.1 k 2)) rfl dX0_tell_67 ?_
    exact t_F C rfl hP hS (by simp [tellF, c_3]) rfl dX0_tell_70
  by_cases c_4 : x = 3
  · refine lv_topE 3 c_4 ?_
    refine lv_tableIn (off := 70) (tgt := 71) C.1.1 C.1.2.1 dX0_tell_1 (by decide) (by decide) rfl (by decide) ?_
    refine lv_aload_n C.1.1 C.1.2.1 dX0_tell_71 rfl (lv_at hl 0 rfl) ?_
    refine r_get C hP k 0 hk1 hk0 (by decide) rfl hi0 3 (by decide) (List.mem_of_getElem? (i := 4) rfl) rfl (val := .int (v.1 k 3)) rfl dX0_tell_72 ?_
    exact t_F C rfl hP hS (by simp [tellF, c_4]) rfl dX0_tell_75
  by_cases c_5 : x = 4
  · refine lv_topE 4 c_5 ?_
    refine lv_tableIn (off := 75) (tgt := 76) C.1.1 C.1.2.1 dX0_tell_1 (by decide) (by decide) rfl (by decide) ?_
    refine lv_aload_n C.1.1 C.1.2.1 dX0_tell_76 rfl (lv_at hl 0 rfl) ?_
    refine r_get C hP k 0 hk1 hk0 (by decide) rfl hi0 4 (by decide) (List.mem_of_getElem? (i := 5) rfl) rfl (val := .int (v.1 k 4)) rfl dX0_tell_77 ?_
    exact t_F C rfl hP hS (by simp [tellF, c_5]) rfl dX0_tell_80
  by_cases c_6 : x = 5
  · refine lv_topE 5 c_6 ?_
    refine lv_tableIn (off := 80) (tgt := 81) C.1.1 C.1.2.1 dX0_tell_1 (by decide) (by decide) rfl (by decide) ?_
    refine lv_aload_n C.1.1 C.1.2.1 dX0_tell_81 rfl (lv_at hl 0 rfl) ?_
    refine r_get C hP k 0 hk1 hk0 (by decide) rfl hi0 5 (by decide) (List.mem_of_getElem? (i := 6) rfl) rfl (val := .int (v.1 k 5)) rfl dX0_tell_82 ?_
    exact t_F C rfl hP hS (by simp [tellF, c_6]) rfl dX0_tell_85
  by_cases c_7 : x = 6
  · refine lv_topE 6 c_7 ?_
    refine lv_tableIn (off := 85) (tgt := 86) C.1.1 C.1.2.1 dX0_tell_1 (by decide) (by decide) rfl (by decide) ?_
    refine lv_aload_n C.1.1 C.1.2.1 dX0_tell_86 rfl (lv_at hl 0 rfl) ?_
    refine lv_iload_n C.1.1 C.1.2.1 dX0_tell_87 rfl (lv_at hl 3 rfl) ?_
    refine a_F hS (run_V C hP hS hl.1 k 0 hk1 hk0 (by decide) rfl [.int z] (kX0_hearing l g n v k (by omega) hk0 z) gX0_tell_X0_hearing rfl hdX0_hearing rfl ⟨rfl, rfl⟩ ⟨Nat.le_of_ble_eq_true rfl, Nat.le_of_ble_eq_true rfl⟩ rfl [] rfl (Nat.le_of_ble_eq_true rfl) dX0_tell_88 ⟨Nat.zero_le _, Nat.zero_le _⟩) (fun H locs hP hS => ?_)
    exact t_F C rfl hP hS (by simp [tellF, c_7]) rfl dX0_tell_91
  by_cases c_8 : x = 7
  · refine lv_topE 7 c_8 ?_
    refine lv_tableIn (off := 91) (tgt := 92) C.1.1 C.1.2.1 dX0_tell_1 (by decide) (by decide) rfl (by decide) ?_
    refine lv_aload_n C.1.1 C.1.2.1 dX0_tell_92 rfl (lv_at hl 0 rfl) ?_
    refine a_F hS (run_V C hP hS hl.1 k 0 hk1 hk0 (by decide) rfl [] (kX0_trust l g n v k (by omega) hk0) gX0_tell_X0_trust rfl hdX0_trust rfl ⟨rfl, rfl⟩ ⟨Nat.le_of_ble_eq_true rfl, Nat.le_of_ble_eq_true rfl⟩ rfl [] rfl (Nat.le_of_ble_eq_true rfl) dX0_tell_93 ⟨Nat.zero_le _, Nat.zero_le _⟩) (fun H locs hP hS => ?_)
    exact t_F C rfl hP hS (by simp [tellF, c_8]) rfl dX0_tell_96
  by_cases c_9 : x = 8
  · refine lv_topE 8 c_9 ?_
    refine lv_tableIn (off := 96) (tgt := 97) C.1.1 C.1.2.1 dX0_tell_1 (by decide) (by decide) rfl (by decide) ?_
    refine lv_aload_n C.1.1 C.1.2.1 dX0_tell_97 rfl (lv_at hl 0 rfl) ?_
    refine a_F hS (run_V C hP hS hl.1 k 0 hk1 hk0 (by decide) rfl [] (kX0_loss l g n v k (by omega) hk0 hw) gX0_tell_X0_loss rfl hdX0_loss rfl ⟨rfl, rfl⟩ ⟨Nat.le_of_ble_eq_true rfl, Nat.le_of_ble_eq_true rfl⟩ rfl [] rfl (Nat.le_of_ble_eq_true rfl) dX0_tell_98 ⟨Nat.zero_le _, Nat.zero_le _⟩) (fun H locs hP hS => ?_)
    exact t_F C rfl hP hS (by simp [tellF, c_9]) rfl dX0_tell_101
  by_cases c_10 : x = 9
  · refine lv_topE 9 c_10 ?_
    refine lv_tableIn (off := 101) (tgt := 102) C.1.1 C.1.2.1 dX0_tell_1 (by decide) (by decide) rfl (by decide) ?_
    refine lv_aload_n C.1.1 C.1.2.1 dX0_tell_102 rfl (lv_at hl 0 rfl) ?_
    refine a_F hS (run_V C hP hS hl.1 k 0 hk1 hk0 (by decide) rfl [] (kX0_mending l g n v k (by omega) hk0) gX0_tell_X0_mending rfl hdX0_mending rfl ⟨rfl, rfl⟩ ⟨Nat.le_of_ble_eq_true rfl, Nat.le_of_ble_eq_true rfl⟩ rfl [] rfl (Nat.le_of_ble_eq_true rfl) dX0_tell_103 ⟨Nat.zero_le _, Nat.zero_le _⟩) (fun H locs hP hS => ?_)
    exact t_F C rfl hP hS (by simp [tellF, c_10]) rfl dX0_tell_106
  have hsw : x.toInt < 0 ∨ 9 < x.toInt := by
    have qc_1 := lv_neT (a := 0) c_1 rfl
    have qc_2 := lv_neT (a := 1) c_2 rfl
    have qc_3 := lv_neT (a := 2) c_3 rfl
    have qc_4 := lv_neT (a := 3) c_4 rfl
    have qc_5 := lv_neT (a := 4) c_5 rfl
    have qc_6 := lv_neT (a := 5) c_6 rfl
    have qc_7 := lv_neT (a := 6) c_7 rfl
    have qc_8 := lv_neT (a := 7) c_8 rfl
    have qc_9 := lv_neT (a := 8) c_9 rfl
    have qc_10 := lv_neT (a := 9) c_10 rfl
    omega
  refine lv_tableOut (tgt := 107) C.1.1 C.1.2.1 dX0_tell_1 hsw (by decide) ?_
  refine lv_aload_n C.1.1 C.1.2.1 dX0_tell_107 rfl (lv_at hl 0 rfl) ?_
  refine lv_iload_n C.1.1 C.1.2.1 dX0_tell_108 rfl (lv_at hl 2 rfl) ?_
  refine a_F hS (run_V C hP hS hl.1 k 0 hk1 hk0 (by decide) rfl [.int y] (kX0_farFrom l g n v k (by omega) hk0 y) gX0_tell_X0_farFrom rfl hdX0_farFrom rfl ⟨rfl, rfl⟩ ⟨Nat.le_of_ble_eq_true rfl, Nat.le_of_ble_eq_true rfl⟩ rfl [] rfl (Nat.le_of_ble_eq_true rfl) dX0_tell_109 ⟨Nat.zero_le _, Nat.zero_le _⟩) (fun H locs hP hS => ?_)
  exact t_F C rfl hP hS (by simp [tellF, c_1, c_2, c_3, c_4, c_5, c_6, c_7, c_8, c_9, c_10]) rfl dX0_tell_112

abbrev rmX0_put : Room := { frames := 0, cells := 0, slots := 0, locals := 0 }
set_option maxHeartbeats 4000000 in
set_option maxRecDepth 100000 in
theorem kX0_put (l : Launch) (g : GG) (n : Nat) (v : SV) (k : Nat) (hk : k < 64) (hk0 : kd k = 0) (x y : Int32) : Met l yX0_put wsX0_put rmX0_put (PW g n v [.ref (gA g k), .int x, .int y]) (QG g n (upw v k (putR (v.1 k) x y))) 0 0 (wA g n) := by
  refine Met.begin RX0 rfl (by decide) rfl (Nat.le_of_ble_eq_true rfl) ?_
  intro p e s m args below meth c ls ha C hP hS hl
  have hn : 64 ≤ n := C.2.1.1.2.1
  have hi0 : ∀ w ∈ u_ws RX0 TX0 6, w ∈ wsX0_put := by decide +kernel
  have hl : lv_has ls 3 [(0, .ref (gA g k)), (1, .int x), (2, .int y)] := hl
  have hk1 : k < n := by omega
  refine lv_iload_n C.1.1 C.1.2.1 dX0_put_0 rfl (lv_at hl 1 rfl) ?_
  by_cases c_1 : x = 0
  · refine lv_topE 0 c_1 ?_
    refine lv_tableIn (off := 35) (tgt := 36) C.1.1 C.1.2.1 dX0_put_1 (by decide) (by decide) rfl (by decide) ?_
    refine lv_aload_n C.1.1 C.1.2.1 dX0_put_36 rfl (lv_at hl 0 rfl) ?_
    refine lv_iload_n C.1.1 C.1.2.1 dX0_put_37 rfl (lv_at hl 2 rfl) ?_
    refine r_put C hP hS k 0 hk1 hk0 (by decide) rfl hi0 tyX0 tyX0_ok nmX0 0 (by decide) (List.mem_of_getElem? (i := 1) rfl) rfl rfl rfl rfl rfl (Nat.le_of_ble_eq_true rfl) dX0_put_38 (fun H locs hP hS => ?_)
    obtain ⟨v_3, hv_3⟩ : ∃ zz, zz = up v k 0 y := ⟨_, rfl⟩
    rw [← hv_3] at hP
    refine lv_goto (tgt := 81) C.1.1 C.1.2.1 dX0_put_41 (by decide) ?_
    exact t_G C rfl hP hS (by simp [putR, c_1, hv_3]) dX0_put_81
  by_cases c_4 : x = 1
  · refine lv_topE 1 c_4 ?_
    refine lv_tableIn (off := 43) (tgt := 44) C.1.1 C.1.2.1 dX0_put_1 (by decide) (by decide) rfl (by decide) ?_
    refine lv_aload_n C.1.1 C.1.2.1 dX0_put_44 rfl (lv_at hl 0 rfl) ?_
    refine lv_iload_n C.1.1 C.1.2.1 dX0_put_45 rfl (lv_at hl 2 rfl) ?_
    refine r_put C hP hS k 0 hk1 hk0 (by decide) rfl hi0 tyX0 tyX0_ok nmX0 1 (by decide) (List.mem_of_getElem? (i := 2) rfl) rfl rfl rfl rfl rfl (Nat.le_of_ble_eq_true rfl) dX0_put_46 (fun H locs hP hS => ?_)
    obtain ⟨v_6, hv_6⟩ : ∃ zz, zz = up v k 1 y := ⟨_, rfl⟩
    rw [← hv_6] at hP
    refine lv_goto (tgt := 81) C.1.1 C.1.2.1 dX0_put_49 (by decide) ?_
    exact t_G C rfl hP hS (by simp [putR, c_4, hv_6]) dX0_put_81
  by_cases c_7 : x = 2
  · refine lv_topE 2 c_7 ?_
    refine lv_tableIn (off := 51) (tgt := 52) C.1.1 C.1.2.1 dX0_put_1 (by decide) (by decide) rfl (by decide) ?_
    refine lv_aload_n C.1.1 C.1.2.1 dX0_put_52 rfl (lv_at hl 0 rfl) ?_
    refine lv_iload_n C.1.1 C.1.2.1 dX0_put_53 rfl (lv_at hl 2 rfl) ?_
    refine r_put C hP hS k 0 hk1 hk0 (by decide) rfl hi0 tyX0 tyX0_ok nmX0 2 (by decide) (List.mem_of_getElem? (i := 3) rfl) rfl rfl rfl rfl rfl (Nat.le_of_ble_eq_true rfl) dX0_put_54 (fun H locs hP hS => ?_)
    obtain ⟨v_9, hv_9⟩ : ∃ zz, zz = up v k 2 y := ⟨_, rfl⟩
    rw [← hv_9] at hP
    refine lv_goto (tgt := 81) C.1.1 C.1.2.1 dX0_put_57 (by decide) ?_
    exact t_G C rfl hP hS (by simp [putR, c_7, hv_9]) dX0_put_81
  by_cases c_10 : x = 3
  · refine lv_topE 3 c_10 ?_
    refine lv_tableIn (off := 59) (tgt := 60) C.1.1 C.1.2.1 dX0_put_1 (by decide) (by decide) rfl (by decide) ?_
    refine lv_aload_n C.1.1 C.1.2.1 dX0_put_60 rfl (lv_at hl 0 rfl) ?_
    refine lv_iload_n C.1.1 C.1.2.1 dX0_put_61 rfl (lv_at hl 2 rfl) ?_
    refine r_put C hP hS k 0 hk1 hk0 (by decide) rfl hi0 tyX0 tyX0_ok nmX0 3 (by decide) (List.mem_of_getElem? (i := 4) rfl) rfl rfl rfl rfl rfl (Nat.le_of_ble_eq_true rfl) dX0_put_62 (fun H locs hP hS => ?_)
    obtain ⟨v_12, hv_12⟩ : ∃ zz, zz = up v k 3 y := ⟨_, rfl⟩
    rw [← hv_12] at hP
    refine lv_goto (tgt := 81) C.1.1 C.1.2.1 dX0_put_65 (by decide) ?_
    exact t_G C rfl hP hS (by simp [putR, c_10, hv_12]) dX0_put_81
  by_cases c_13 : x = 4
  · refine lv_topE 4 c_13 ?_
    refine lv_tableIn (off := 67) (tgt := 68) C.1.1 C.1.2.1 dX0_put_1 (by decide) (by decide) rfl (by decide) ?_
    refine lv_aload_n C.1.1 C.1.2.1 dX0_put_68 rfl (lv_at hl 0 rfl) ?_
    refine lv_iload_n C.1.1 C.1.2.1 dX0_put_69 rfl (lv_at hl 2 rfl) ?_
    refine r_put C hP hS k 0 hk1 hk0 (by decide) rfl hi0 tyX0 tyX0_ok nmX0 4 (by decide) (List.mem_of_getElem? (i := 5) rfl) rfl rfl rfl rfl rfl (Nat.le_of_ble_eq_true rfl) dX0_put_70 (fun H locs hP hS => ?_)
    obtain ⟨v_15, hv_15⟩ : ∃ zz, zz = up v k 4 y := ⟨_, rfl⟩
    rw [← hv_15] at hP
    refine lv_goto (tgt := 81) C.1.1 C.1.2.1 dX0_put_73 (by decide) ?_
    exact t_G C rfl hP hS (by simp [putR, c_13, hv_15]) dX0_put_81
  have hsw : x.toInt < 0 ∨ 4 < x.toInt := by
    have qc_1 := lv_neT (a := 0) c_1 rfl
    have qc_4 := lv_neT (a := 1) c_4 rfl
    have qc_7 := lv_neT (a := 2) c_7 rfl
    have qc_10 := lv_neT (a := 3) c_10 rfl
    have qc_13 := lv_neT (a := 4) c_13 rfl
    omega
  refine lv_tableOut (tgt := 76) C.1.1 C.1.2.1 dX0_put_1 hsw (by decide) ?_
  refine lv_aload_n C.1.1 C.1.2.1 dX0_put_76 rfl (lv_at hl 0 rfl) ?_
  refine lv_iload_n C.1.1 C.1.2.1 dX0_put_77 rfl (lv_at hl 2 rfl) ?_
  refine r_put C hP hS k 0 hk1 hk0 (by decide) rfl hi0 tyX0 tyX0_ok nmX0 5 (by decide) (List.mem_of_getElem? (i := 6) rfl) rfl rfl rfl rfl rfl (Nat.le_of_ble_eq_true rfl) dX0_put_78 (fun H locs hP hS => ?_)
  obtain ⟨v_17, hv_17⟩ : ∃ zz, zz = up v k 5 y := ⟨_, rfl⟩
  rw [← hv_17] at hP
  exact t_G C rfl hP hS (by simp [putR, c_1, c_4, c_7, c_10, c_13, hv_17]) dX0_put_81

abbrev rmX0_become : Room := { frames := 0, cells := 0, slots := 0, locals := 0 }
set_option maxHeartbeats 4000000 in
set_option maxRecDepth 100000 in
theorem kX0_become (l : Launch) (g : GG) (n : Nat) (v : SV) (k : Nat) (hk : k < 64) (hk0 : kd k = 0) (q2 : Nat) (hj : q2 < 64) (hj0 : kd q2 = 0) (hne : q2 ≠ k) : Met l yX0_become wsX0_become rmX0_become (PW g n v [.ref (gA g k), .ref (gA g q2)]) (QG g n (upw v k (becR (v.1 k) (v.1 q2)))) 0 0 (wA g n) := by
  refine Met.begin RX0 rfl (by decide) rfl (Nat.le_of_ble_eq_true rfl) ?_
  intro p e s m args below meth c ls ha C hP hS hl
  have hn : 64 ≤ n := C.2.1.1.2.1
  have hi0 : ∀ w ∈ u_ws RX0 TX0 6, w ∈ wsX0_become := by decide +kernel
  have hl : lv_has ls 2 [(0, .ref (gA g k)), (1, .ref (gA g q2))] := hl
  have hk1 : k < n := by omega
  have hj1 : q2 < n := by omega
  refine lv_aload_n C.1.1 C.1.2.1 dX0_become_0 rfl (lv_at hl 0 rfl) ?_
  refine lv_aload_n C.1.1 C.1.2.1 dX0_become_1 rfl (lv_at hl 1 rfl) ?_
  refine r_get C hP q2 0 hj1 hj0 (by decide) rfl hi0 0 (by decide) (List.mem_of_getElem? (i := 1) rfl) rfl (val := .int (v.1 q2 0)) rfl dX0_become_2 ?_
  refine r_put C hP hS k 0 hk1 hk0 (by decide) rfl hi0 tyX0 tyX0_ok nmX0 0 (by decide) (List.mem_of_getElem? (i := 1) rfl) rfl rfl rfl rfl rfl (Nat.le_of_ble_eq_true rfl) dX0_become_5 (fun H locs hP hS => ?_)
  obtain ⟨d_2, hd_2⟩ : ∃ zz, zz = upd (v.1 k) 0 (v.1 q2 0) := ⟨_, rfl⟩
  rw [show up v k 0 (v.1 q2 0) = upw v k d_2 from by rw [hd_2]] at hP
  refine lv_aload_n C.1.1 C.1.2.1 dX0_become_8 rfl (lv_at hl 0 rfl) ?_
  refine lv_aload_n C.1.1 C.1.2.1 dX0_become_9 rfl (lv_at hl 1 rfl) ?_
  refine r_get C hP q2 0 hj1 hj0 (by decide) rfl hi0 1 (by decide) (List.mem_of_getElem? (i := 2) rfl) rfl (val := .int ((upw v k d_2).1 q2 1)) rfl dX0_become_10 ?_
  refine r_put C hP hS k 0 hk1 hk0 (by decide) rfl hi0 tyX0 tyX0_ok nmX0 1 (by decide) (List.mem_of_getElem? (i := 2) rfl) rfl rfl rfl rfl rfl (Nat.le_of_ble_eq_true rfl) dX0_become_13 (fun H locs hP hS => ?_)
  obtain ⟨d_4, hd_4⟩ : ∃ zz, zz = upd d_2 1 ((upw v k d_2).1 q2 1) := ⟨_, rfl⟩
  rw [show up (upw v k d_2) k 1 ((upw v k d_2).1 q2 1) = upw v k d_4 from by rw [hd_4]; exact upw_up _ _ _ _ _] at hP
  refine lv_aload_n C.1.1 C.1.2.1 dX0_become_16 rfl (lv_at hl 0 rfl) ?_
  refine lv_aload_n C.1.1 C.1.2.1 dX0_become_17 rfl (lv_at hl 1 rfl) ?_
  refine r_get C hP q2 0 hj1 hj0 (by decide) rfl hi0 2 (by decide) (List.mem_of_getElem? (i := 3) rfl) rfl (val := .int ((upw v k d_4).1 q2 2)) rfl dX0_become_18 ?_
  refine r_put C hP hS k 0 hk1 hk0 (by decide) rfl hi0 tyX0 tyX0_ok nmX0 2 (by decide) (List.mem_of_getElem? (i := 3) rfl) rfl rfl rfl rfl rfl (Nat.le_of_ble_eq_true rfl) dX0_become_21 (fun H locs hP hS => ?_)
  obtain ⟨d_6, hd_6⟩ : ∃ zz, zz = upd d_4 2 ((upw v k d_4).1 q2 2) := ⟨_, rfl⟩
  rw [show up (upw v k d_4) k 2 ((upw v k d_4).1 q2 2) = upw v k d_6 from by rw [hd_6]; exact upw_up _ _ _ _ _] at hP
  refine lv_aload_n C.1.1 C.1.2.1 dX0_become_24 rfl (lv_at hl 0 rfl) ?_
  refine lv_aload_n C.1.1 C.1.2.1 dX0_become_25 rfl (lv_at hl 1 rfl) ?_
  refine r_get C hP q2 0 hj1 hj0 (by decide) rfl hi0 3 (by decide) (List.mem_of_getElem? (i := 4) rfl) rfl (val := .int ((upw v k d_6).1 q2 3)) rfl dX0_become_26 ?_
  refine r_put C hP hS k 0 hk1 hk0 (by decide) rfl hi0 tyX0 tyX0_ok nmX0 3 (by decide) (List.mem_of_getElem? (i := 4) rfl) rfl rfl rfl rfl rfl (Nat.le_of_ble_eq_true rfl) dX0_become_29 (fun H locs hP hS => ?_)
  obtain ⟨d_8, hd_8⟩ : ∃ zz, zz = upd d_6 3 ((upw v k d_6).1 q2 3) := ⟨_, rfl⟩
  rw [show up (upw v k d_6) k 3 ((upw v k d_6).1 q2 3) = upw v k d_8 from by rw [hd_8]; exact upw_up _ _ _ _ _] at hP
  refine lv_aload_n C.1.1 C.1.2.1 dX0_become_32 rfl (lv_at hl 0 rfl) ?_
  refine lv_aload_n C.1.1 C.1.2.1 dX0_become_33 rfl (lv_at hl 1 rfl) ?_
  refine r_get C hP q2 0 hj1 hj0 (by decide) rfl hi0 4 (by decide) (List.mem_of_getElem? (i := 5) rfl) rfl (val := .int ((upw v k d_8).1 q2 4)) rfl dX0_become_34 ?_
  refine r_put C hP hS k 0 hk1 hk0 (by decide) rfl hi0 tyX0 tyX0_ok nmX0 4 (by decide) (List.mem_of_getElem? (i := 5) rfl) rfl rfl rfl rfl rfl (Nat.le_of_ble_eq_true rfl) dX0_become_37 (fun H locs hP hS => ?_)
  obtain ⟨d_10, hd_10⟩ : ∃ zz, zz = upd d_8 4 ((upw v k d_8).1 q2 4) := ⟨_, rfl⟩
  rw [show up (upw v k d_8) k 4 ((upw v k d_8).1 q2 4) = upw v k d_10 from by rw [hd_10]; exact upw_up _ _ _ _ _] at hP
  refine lv_aload_n C.1.1 C.1.2.1 dX0_become_40 rfl (lv_at hl 0 rfl) ?_
  refine lv_aload_n C.1.1 C.1.2.1 dX0_become_41 rfl (lv_at hl 1 rfl) ?_
  refine r_get C hP q2 0 hj1 hj0 (by decide) rfl hi0 5 (by decide) (List.mem_of_getElem? (i := 6) rfl) rfl (val := .int ((upw v k d_10).1 q2 5)) rfl dX0_become_42 ?_
  refine r_put C hP hS k 0 hk1 hk0 (by decide) rfl hi0 tyX0 tyX0_ok nmX0 5 (by decide) (List.mem_of_getElem? (i := 6) rfl) rfl rfl rfl rfl rfl (Nat.le_of_ble_eq_true rfl) dX0_become_45 (fun H locs hP hS => ?_)
  obtain ⟨d_12, hd_12⟩ : ∃ zz, zz = upd d_10 5 ((upw v k d_10).1 q2 5) := ⟨_, rfl⟩
  rw [show up (upw v k d_10) k 5 ((upw v k d_10).1 q2 5) = upw v k d_12 from by rw [hd_12]; exact upw_up _ _ _ _ _] at hP
  exact t_G C rfl hP hS (by subst hd_12 hd_10 hd_8 hd_6 hd_4 hd_2; simp only [upw_ne _ _ hne]; rfl) dX0_become_48

abbrev rmX0_heeds : Room := { frames := 2, cells := 0, slots := 0, locals := 45 }
set_option maxHeartbeats 4000000 in
set_option maxRecDepth 100000 in
theorem kX0_heeds (l : Launch) (g : GG) (n : Nat) (v : SV) (k : Nat) (hk : k < 64) (hk0 : kd k = 0) (x y : Int32) : Met l yX0_heeds wsX0_heeds rmX0_heeds (PW g n v [.ref (gA g k), .int x, .int y]) (QB g n (heedF (v.1 k) x y) v) 0 0 (wA g n) := by
  refine Met.begin RX0 rfl (by decide) rfl (Nat.le_of_ble_eq_true rfl) ?_
  intro p e s m args below meth c ls ha C hP hS hl
  have hn : 64 ≤ n := C.2.1.1.2.1
  have hi0 : ∀ w ∈ u_ws RX0 TX0 6, w ∈ wsX0_heeds := by decide +kernel
  have hl : lv_has ls 3 [(0, .ref (gA g k)), (1, .int x), (2, .int y)] := hl
  have hk1 : k < n := by omega
  refine lv_aload_n C.1.1 C.1.2.1 dX0_heeds_0 rfl (lv_at hl 0 rfl) ?_
  refine lv_iload_n C.1.1 C.1.2.1 dX0_heeds_1 rfl (lv_at hl 1 rfl) ?_
  refine a_F hS (run_V C hP hS hl.1 k 0 hk1 hk0 (by decide) rfl [.int x] (kX0_farFrom l g n v k (by omega) hk0 x) gX0_heeds_X0_farFrom rfl hdX0_farFrom rfl ⟨rfl, rfl⟩ ⟨Nat.le_of_ble_eq_true rfl, Nat.le_of_ble_eq_true rfl⟩ rfl [] rfl (Nat.le_of_ble_eq_true rfl) dX0_heeds_2 ⟨Nat.zero_le _, Nat.zero_le _⟩) (fun H locs hP hS => ?_)
  refine lv_aload_n C.1.1 C.1.2.1 dX0_heeds_5 rfl (lv_at hl 0 rfl) ?_
  refine lv_iload_n C.1.1 C.1.2.1 dX0_heeds_6 rfl (lv_at hl 2 rfl) ?_
  refine a_F hS (run_V C hP hS hl.1 k 0 hk1 hk0 (by decide) rfl [.int y] (kX0_hearing l g n v k (by omega) hk0 y) gX0_heeds_X0_hearing rfl hdX0_hearing rfl ⟨rfl, rfl⟩ ⟨Nat.le_of_ble_eq_true rfl, Nat.le_of_ble_eq_true rfl⟩ rfl [.int (sizeF ((v.1 k) 1 - x))] rfl (Nat.le_of_ble_eq_true rfl) dX0_heeds_7 ⟨Nat.zero_le _, Nat.zero_le _⟩) (fun H locs hP hS => ?_)
  refine lv_icmp_gt (tgt := 17) C.1.1 C.1.2.1 dX0_heeds_10 (by decide) (fun c_1 => ?_) (fun c_1 => ?_)
  · skip
    refine lv_iconst (v := 0) C.1.1 C.1.2.1 dX0_heeds_17 rfl ?_
    exact t_0 C rfl hP hS (by first | exact fa_nlt (by assumption) | exact fa_lt_nle (by assumption)) rfl dX0_heeds_18
  · skip
    refine lv_iconst (v := 1) C.1.1 C.1.2.1 dX0_heeds_13 rfl ?_
    refine lv_goto (tgt := 18) C.1.1 C.1.2.1 dX0_heeds_14 (by decide) ?_
    exact t_1 C rfl hP hS (by first | exact fa_nlt (by assumption) | exact fa_lt_nle (by assumption)) rfl dX0_heeds_18

abbrev rmX0_comesFor : Room := { frames := 3, cells := 0, slots := 0, locals := 67 }
set_option maxHeartbeats 4000000 in
set_option maxRecDepth 100000 in
theorem kX0_comesFor (l : Launch) (g : GG) (n : Nat) (v : SV) (k : Nat) (hk : k < 64) (hk0 : kd k = 0) (x y z : Int32) : Met l yX0_comesFor wsX0_comesFor rmX0_comesFor (PW g n v [.ref (gA g k), .int x, .int y, .int z]) (QB g n (comeF (v.1 k) x y z) v) 0 0 (wA g n) := by
  refine Met.begin RX0 rfl (by decide) rfl (Nat.le_of_ble_eq_true rfl) ?_
  intro p e s m args below meth c ls ha C hP hS hl
  have hn : 64 ≤ n := C.2.1.1.2.1
  have hi0 : ∀ w ∈ u_ws RX0 TX0 6, w ∈ wsX0_comesFor := by decide +kernel
  have hl : lv_has ls 4 [(0, .ref (gA g k)), (1, .int x), (2, .int y), (3, .int z)] := hl
  have hk1 : k < n := by omega
  refine lv_aload_n C.1.1 C.1.2.1 dX0_comesFor_0 rfl (lv_at hl 0 rfl) ?_
  refine r_get C hP k 0 hk1 hk0 (by decide) rfl hi0 5 (by decide) (List.mem_of_getElem? (i := 1) rfl) rfl (val := .int (v.1 k 5)) rfl dX0_comesFor_1 ?_
  refine lv_if_ne (tgt := 39) C.1.1 C.1.2.1 dX0_comesFor_4 (by decide) (fun c_1 => ?_) (fun c_1 => ?_)
  · skip
    refine lv_iconst (v := 0) C.1.1 C.1.2.1 dX0_comesFor_39 rfl ?_
    exact t_0 C rfl hP hS (by first | exact ⟨by assumption, by assumption, fa_nlt (by assumption), by assumption⟩ | exact fun h => absurd h.1 (by assumption) | exact fun h => absurd h.2.1 (by assumption) | exact fun h => absurd h.2.2.1 (fa_lt_nle (by assumption)) | exact fun h => absurd h.2.2.2 (by assumption)) rfl dX0_comesFor_40
  · skip
    refine lv_aload_n C.1.1 C.1.2.1 dX0_comesFor_7 rfl (lv_at hl 0 rfl) ?_
    refine lv_iload_n C.1.1 C.1.2.1 dX0_comesFor_8 rfl (lv_at hl 1 rfl) ?_
    refine a_B hS (run_V C hP hS hl.1 k 0 hk1 hk0 (by decide) rfl [.int x] (kX0_isFor l g n v k (by omega) hk0 x) gX0_comesFor_X0_isFor rfl hdX0_isFor rfl ⟨rfl, rfl⟩ ⟨Nat.le_of_ble_eq_true rfl, Nat.le_of_ble_eq_true rfl⟩ rfl [] rfl (Nat.le_of_ble_eq_true rfl) dX0_comesFor_9 ⟨Nat.zero_le _, Nat.zero_le _⟩) (fun b_2 H locs hP hS => ?_) (fun b_2 H locs hP hS => ?_)
    · skip
      refine lv_if_eq (tgt := 39) C.1.1 C.1.2.1 dX0_comesFor_12 (by decide) (fun c_3 => absurd c_3 (by decide)) (fun _ => ?_)
      refine lv_aload_n C.1.1 C.1.2.1 dX0_comesFor_15 rfl (lv_at hl 0 rfl) ?_
      refine r_get C hP k 0 hk1 hk0 (by decide) rfl hi0 3 (by decide) (List.mem_of_getElem? (i := 2) rfl) rfl (val := .int (v.1 k 3)) rfl dX0_comesFor_16 ?_
      refine lv_aload_n C.1.1 C.1.2.1 dX0_comesFor_19 rfl (lv_at hl 0 rfl) ?_
      refine a_F hS (run_V C hP hS hl.1 k 0 hk1 hk0 (by decide) rfl [] (kX0_trust l g n v k (by omega) hk0) gX0_comesFor_X0_trust rfl hdX0_trust rfl ⟨rfl, rfl⟩ ⟨Nat.le_of_ble_eq_true rfl, Nat.le_of_ble_eq_true rfl⟩ rfl [.int (v.1 k 3)] rfl (Nat.le_of_ble_eq_true rfl) dX0_comesFor_20 ⟨Nat.zero_le _, Nat.zero_le _⟩) (fun H locs hP hS => ?_)
      refine lv_icmp_lt (tgt := 39) C.1.1 C.1.2.1 dX0_comesFor_23 (by decide) (fun c_4 => ?_) (fun c_4 => ?_)
      · skip
        refine lv_iconst (v := 0) C.1.1 C.1.2.1 dX0_comesFor_39 rfl ?_
        exact t_0 C rfl hP hS (by first | exact ⟨by assumption, by assumption, fa_nlt (by assumption), by assumption⟩ | exact fun h => absurd h.1 (by assumption) | exact fun h => absurd h.2.1 (by assumption) | exact fun h => absurd h.2.2.1 (fa_lt_nle (by assumption)) | exact fun h => absurd h.2.2.2 (by assumption)) rfl dX0_comesFor_40
      · skip
        refine lv_aload_n C.1.1 C.1.2.1 dX0_comesFor_26 rfl (lv_at hl 0 rfl) ?_
        refine lv_iload_n C.1.1 C.1.2.1 dX0_comesFor_27 rfl (lv_at hl 2 rfl) ?_
        refine lv_iload_n C.1.1 C.1.2.1 dX0_comesFor_28 rfl (lv_at hl 3 rfl) ?_
        refine a_B hS (run_V C hP hS hl.1 k 0 hk1 hk0 (by decide) rfl [.int y, .int z] (kX0_heeds l g n v k (by omega) hk0 y z) gX0_comesFor_X0_heeds rfl hdX0_heeds rfl ⟨rfl, rfl⟩ ⟨Nat.le_of_ble_eq_true rfl, Nat.le_of_ble_eq_true rfl⟩ rfl [] rfl (Nat.le_of_ble_eq_true rfl) dX0_comesFor_29 ⟨Nat.zero_le _, Nat.zero_le _⟩) (fun b_5 H locs hP hS => ?_) (fun b_5 H locs hP hS => ?_)
        · skip
          refine lv_if_eq (tgt := 39) C.1.1 C.1.2.1 dX0_comesFor_32 (by decide) (fun c_6 => absurd c_6 (by decide)) (fun _ => ?_)
          refine lv_iconst (v := 1) C.1.1 C.1.2.1 dX0_comesFor_35 rfl ?_
          refine lv_goto (tgt := 40) C.1.1 C.1.2.1 dX0_comesFor_36 (by decide) ?_
          exact t_1 C rfl hP hS (by first | exact ⟨by assumption, by assumption, fa_nlt (by assumption), by assumption⟩ | exact fun h => absurd h.1 (by assumption) | exact fun h => absurd h.2.1 (by assumption) | exact fun h => absurd h.2.2.1 (fa_lt_nle (by assumption)) | exact fun h => absurd h.2.2.2 (by assumption)) rfl dX0_comesFor_40
        · skip
          refine lv_if_eq (tgt := 39) C.1.1 C.1.2.1 dX0_comesFor_32 (by decide) (fun _ => ?_) (fun c_7 => absurd c_7 (by decide))
          refine lv_iconst (v := 0) C.1.1 C.1.2.1 dX0_comesFor_39 rfl ?_
          exact t_0 C rfl hP hS (by first | exact ⟨by assumption, by assumption, fa_nlt (by assumption), by assumption⟩ | exact fun h => absurd h.1 (by assumption) | exact fun h => absurd h.2.1 (by assumption) | exact fun h => absurd h.2.2.1 (fa_lt_nle (by assumption)) | exact fun h => absurd h.2.2.2 (by assumption)) rfl dX0_comesFor_40
    · skip
      refine lv_if_eq (tgt := 39) C.1.1 C.1.2.1 dX0_comesFor_12 (by decide) (fun _ => ?_) (fun c_8 => absurd c_8 (by decide))
      refine lv_iconst (v := 0) C.1.1 C.1.2.1 dX0_comesFor_39 rfl ?_
      exact t_0 C rfl hP hS (by first | exact ⟨by assumption, by assumption, fa_nlt (by assumption), by assumption⟩ | exact fun h => absurd h.1 (by assumption) | exact fun h => absurd h.2.1 (by assumption) | exact fun h => absurd h.2.2.1 (fa_lt_nle (by assumption)) | exact fun h => absurd h.2.2.2 (by assumption)) rfl dX0_comesFor_40

abbrev rmX0_standOnTheStep : Room := { frames := 2, cells := 0, slots := 0, locals := 43 }
set_option maxHeartbeats 4000000 in
set_option maxRecDepth 100000 in
theorem kX0_standOnTheStep (l : Launch) (g : GG) (n : Nat) (v : SV) (k : Nat) (hk : k < 64) (hk0 : kd k = 0) (hw : ∃ w : Nat, w < 4096 ∧ v.1 k 2 = nI w) : Met l yX0_standOnTheStep wsX0_standOnTheStep rmX0_standOnTheStep (PW g n v [.ref (gA g k)]) (QG g n (upw v k (standR (v.1 k)))) 0 0 (wA g n) := by
  refine Met.begin RX0 rfl (by decide) rfl (Nat.le_of_ble_eq_true rfl) ?_
  intro p e s m args below meth c ls ha C hP hS hl
  have hn : 64 ≤ n := C.2.1.1.2.1
  have hi0 : ∀ w ∈ u_ws RX0 TX0 6, w ∈ wsX0_standOnTheStep := by decide +kernel
  have hl : lv_has ls 1 [(0, .ref (gA g k))] := hl
  have hk1 : k < n := by omega
  refine lv_aload_n C.1.1 C.1.2.1 dX0_standOnTheStep_0 rfl (lv_at hl 0 rfl) ?_
  refine lv_sipush (v := 9999) C.1.1 C.1.2.1 dX0_standOnTheStep_1 rfl ?_
  refine lv_aload_n C.1.1 C.1.2.1 dX0_standOnTheStep_4 rfl (lv_at hl 0 rfl) ?_
  refine r_get C hP k 0 hk1 hk0 (by decide) rfl hi0 4 (by decide) (List.mem_of_getElem? (i := 1) rfl) rfl (val := .int (v.1 k 4)) rfl dX0_standOnTheStep_5 ?_
  refine lv_iconst (v := 1) C.1.1 C.1.2.1 dX0_standOnTheStep_8 rfl ?_
  refine lv_iadd C.1.1 C.1.2.1 dX0_standOnTheStep_9 ?_
  refine va_mmin C.1.1 C.1.2.1 (C.1.2.2.1.trans hl.1.symm) C.1.2.2.2.1 (C.1.2.2.2.2 _ (List.mem_of_getElem? (i := 2) rfl)) (C.1.2.2.2.2 _ (List.mem_of_getElem? (i := 3) rfl)) (C.1.2.2.2.2 _ (List.mem_of_getElem? (i := 4) rfl)) (C.1.2.2.2.2 _ (List.mem_of_getElem? (i := 5) rfl)) (Nat.le_of_ble_eq_true rfl) (Nat.le_of_ble_eq_true rfl) (Nat.le_refl _) (Nat.le_refl _) dX0_standOnTheStep_10 ?_
  refine r_put C hP hS k 0 hk1 hk0 (by decide) rfl hi0 tyX0 tyX0_ok nmX0 4 (by decide) (List.mem_of_getElem? (i := 1) rfl) rfl rfl rfl rfl rfl (Nat.le_of_ble_eq_true rfl) dX0_standOnTheStep_13 (fun H locs hP hS => ?_)
  obtain ⟨d_2, hd_2⟩ : ∃ zz, zz = upd (v.1 k) 4 (if (v.1 k 4) + 1 < 9999 then (v.1 k 4) + 1 else 9999) := ⟨_, rfl⟩
  rw [show up v k 4 (if (v.1 k 4) + 1 < 9999 then (v.1 k 4) + 1 else 9999) = upw v k d_2 from by rw [hd_2]] at hP
  refine lv_aload_n C.1.1 C.1.2.1 dX0_standOnTheStep_16 rfl (lv_at hl 0 rfl) ?_
  refine lv_iconst (v := 0) C.1.1 C.1.2.1 dX0_standOnTheStep_17 rfl ?_
  refine lv_aload_n C.1.1 C.1.2.1 dX0_standOnTheStep_18 rfl (lv_at hl 0 rfl) ?_
  refine r_get C hP k 0 hk1 hk0 (by decide) rfl hi0 3 (by decide) (List.mem_of_getElem? (i := 6) rfl) rfl (val := .int ((upw v k d_2).1 k 3)) rfl dX0_standOnTheStep_19 ?_
  refine lv_topE (d_2 3) (by rw [upw_same]) ?_
  refine lv_aload_n C.1.1 C.1.2.1 dX0_standOnTheStep_22 rfl (lv_at hl 0 rfl) ?_
  refine a_F hS (run_V C hP hS hl.1 k 0 hk1 hk0 (by decide) rfl [] (kX0_loss l g n (upw v k d_2) k (by omega) hk0 (by rw [upw_same, hd_2]; exact hw)) gX0_standOnTheStep_X0_loss rfl hdX0_loss rfl ⟨rfl, rfl⟩ ⟨Nat.le_of_ble_eq_true rfl, Nat.le_of_ble_eq_true rfl⟩ rfl [.int (d_2 3), .int 0, .ref (gA g k)] rfl (Nat.le_of_ble_eq_true rfl) dX0_standOnTheStep_23 ⟨Nat.zero_le _, Nat.zero_le _⟩) (fun H locs hP hS => ?_)
  refine lv_topE (loseF d_2) (by rw [upw_same]) ?_
  refine lv_isub C.1.1 C.1.2.1 dX0_standOnTheStep_26 ?_
  refine va_mmax C.1.1 C.1.2.1 (C.1.2.2.1.trans hl.1.symm) C.1.2.2.2.1 (C.1.2.2.2.2 _ (List.mem_of_getElem? (i := 7) rfl)) (C.1.2.2.2.2 _ (List.mem_of_getElem? (i := 8) rfl)) (C.1.2.2.2.2 _ (List.mem_of_getElem? (i := 4) rfl)) (C.1.2.2.2.2 _ (List.mem_of_getElem? (i := 9) rfl)) (Nat.le_of_ble_eq_true rfl) (Nat.le_of_ble_eq_true rfl) (Nat.le_refl _) (Nat.le_refl _) dX0_standOnTheStep_27 ?_
  refine r_put C hP hS k 0 hk1 hk0 (by decide) rfl hi0 tyX0 tyX0_ok nmX0 3 (by decide) (List.mem_of_getElem? (i := 6) rfl) rfl rfl rfl rfl rfl (Nat.le_of_ble_eq_true rfl) dX0_standOnTheStep_30 (fun H locs hP hS => ?_)
  obtain ⟨d_4, hd_4⟩ : ∃ zz, zz = upd d_2 3 (if 0 < (d_2 3) - (loseF d_2) then (d_2 3) - (loseF d_2) else 0) := ⟨_, rfl⟩
  rw [show up (upw v k d_2) k 3 (if 0 < (d_2 3) - (loseF d_2) then (d_2 3) - (loseF d_2) else 0) = upw v k d_4 from by rw [hd_4]; exact upw_up _ _ _ _ _] at hP
  exact t_G C rfl hP hS (by subst hd_4 hd_2; rfl) dX0_standOnTheStep_33

abbrev rmX0_stayIn : Room := { frames := 3, cells := 0, slots := 0, locals := 67 }
set_option maxHeartbeats 4000000 in
set_option maxRecDepth 100000 in
theorem kX0_stayIn (l : Launch) (g : GG) (n : Nat) (v : SV) (k : Nat) (hk : k < 64) (hk0 : kd k = 0) (x y z : Int32) : Met l yX0_stayIn wsX0_stayIn rmX0_stayIn (PW g n v [.ref (gA g k), .int x, .int y, .int z]) (QG g n (upw v k (stayR (v.1 k) x y z))) 0 0 (wA g n) := by
  refine Met.begin RX0 rfl (by decide) rfl (Nat.le_of_ble_eq_true rfl) ?_
  intro p e s m args below meth c ls ha C hP hS hl
  have hn : 64 ≤ n := C.2.1.1.2.1
  have hi0 : ∀ w ∈ u_ws RX0 TX0 6, w ∈ wsX0_stayIn := by decide +kernel
  have hl : lv_has ls 4 [(0, .ref (gA g k)), (1, .int x), (2, .int y), (3, .int z)] := hl
  have hk1 : k < n := by omega
  refine lv_aload_n C.1.1 C.1.2.1 dX0_stayIn_0 rfl (lv_at hl 0 rfl) ?_
  refine lv_iload_n C.1.1 C.1.2.1 dX0_stayIn_1 rfl (lv_at hl 1 rfl) ?_
  refine a_B hS (run_V C hP hS hl.1 k 0 hk1 hk0 (by decide) rfl [.int x] (kX0_isFor l g n v k (by omega) hk0 x) gX0_stayIn_X0_isFor rfl hdX0_isFor rfl ⟨rfl, rfl⟩ ⟨Nat.le_of_ble_eq_true rfl, Nat.le_of_ble_eq_true rfl⟩ rfl [] rfl (Nat.le_of_ble_eq_true rfl) dX0_stayIn_2 ⟨Nat.zero_le _, Nat.zero_le _⟩) (fun b_1 H locs hP hS => ?_) (fun b_1 H locs hP hS => ?_)
  · skip
    refine lv_if_ne (tgt := 37) C.1.1 C.1.2.1 dX0_stayIn_5 (by decide) (fun _ => ?_) (fun c_2 => absurd c_2 (by decide))
    refine lv_aload_n C.1.1 C.1.2.1 dX0_stayIn_37 rfl (lv_at hl 0 rfl) ?_
    refine lv_bipush (v := 99) C.1.1 C.1.2.1 dX0_stayIn_38 rfl ?_
    refine lv_aload_n C.1.1 C.1.2.1 dX0_stayIn_40 rfl (lv_at hl 0 rfl) ?_
    refine r_get C hP k 0 hk1 hk0 (by decide) rfl hi0 3 (by decide) (List.mem_of_getElem? (i := 2) rfl) rfl (val := .int (v.1 k 3)) rfl dX0_stayIn_41 ?_
    refine lv_aload_n C.1.1 C.1.2.1 dX0_stayIn_44 rfl (lv_at hl 0 rfl) ?_
    refine a_F hS (run_V C hP hS hl.1 k 0 hk1 hk0 (by decide) rfl [] (kX0_mending l g n v k (by omega) hk0) gX0_stayIn_X0_mending rfl hdX0_mending rfl ⟨rfl, rfl⟩ ⟨Nat.le_of_ble_eq_true rfl, Nat.le_of_ble_eq_true rfl⟩ rfl [.int (v.1 k 3), .int 99, .ref (gA g k)] rfl (Nat.le_of_ble_eq_true rfl) dX0_stayIn_45 ⟨Nat.zero_le _, Nat.zero_le _⟩) (fun H locs hP hS => ?_)
    refine lv_iadd C.1.1 C.1.2.1 dX0_stayIn_48 ?_
    refine va_mmin C.1.1 C.1.2.1 (C.1.2.2.1.trans hl.1.symm) C.1.2.2.2.1 (C.1.2.2.2.2 _ (List.mem_of_getElem? (i := 3) rfl)) (C.1.2.2.2.2 _ (List.mem_of_getElem? (i := 4) rfl)) (C.1.2.2.2.2 _ (List.mem_of_getElem? (i := 5) rfl)) (C.1.2.2.2.2 _ (List.mem_of_getElem? (i := 6) rfl)) (Nat.le_of_ble_eq_true rfl) (Nat.le_of_ble_eq_true rfl) (Nat.le_refl _) (Nat.le_refl _) dX0_stayIn_49 ?_
    refine r_put C hP hS k 0 hk1 hk0 (by decide) rfl hi0 tyX0 tyX0_ok nmX0 3 (by decide) (List.mem_of_getElem? (i := 2) rfl) rfl rfl rfl rfl rfl (Nat.le_of_ble_eq_true rfl) dX0_stayIn_52 (fun H locs hP hS => ?_)
    obtain ⟨d_4, hd_4⟩ : ∃ zz, zz = upd (v.1 k) 3 (if (v.1 k 3) + (mendF (v.1 k)) < 99 then (v.1 k 3) + (mendF (v.1 k)) else 99) := ⟨_, rfl⟩
    rw [show up v k 3 (if (v.1 k 3) + (mendF (v.1 k)) < 99 then (v.1 k 3) + (mendF (v.1 k)) else 99) = upw v k d_4 from by rw [hd_4]] at hP
    exact t_G C rfl hP hS (by have e9 := (by first | exact lureR_f1 (R := v.1 k) (by assumption) | exact lureR_f2 (R := v.1 k) (by assumption) | exact lureR_f3 (R := v.1 k) (by assumption) : lureR (v.1 k) x y z = v.1 k); subst hd_4; unfold stayR; rw [e9]) dX0_stayIn_55
  · skip
    refine lv_if_ne (tgt := 37) C.1.1 C.1.2.1 dX0_stayIn_5 (by decide) (fun c_5 => absurd c_5 (by decide)) (fun _ => ?_)
    refine lv_aload_n C.1.1 C.1.2.1 dX0_stayIn_8 rfl (lv_at hl 0 rfl) ?_
    refine lv_iload_n C.1.1 C.1.2.1 dX0_stayIn_9 rfl (lv_at hl 2 rfl) ?_
    refine lv_iload_n C.1.1 C.1.2.1 dX0_stayIn_10 rfl (lv_at hl 3 rfl) ?_
    refine a_B hS (run_V C hP hS hl.1 k 0 hk1 hk0 (by decide) rfl [.int y, .int z] (kX0_heeds l g n v k (by omega) hk0 y z) gX0_stayIn_X0_heeds rfl hdX0_heeds rfl ⟨rfl, rfl⟩ ⟨Nat.le_of_ble_eq_true rfl, Nat.le_of_ble_eq_true rfl⟩ rfl [] rfl (Nat.le_of_ble_eq_true rfl) dX0_stayIn_11 ⟨Nat.zero_le _, Nat.zero_le _⟩) (fun b_6 H locs hP hS => ?_) (fun b_6 H locs hP hS => ?_)
    · skip
      refine lv_if_eq (tgt := 37) C.1.1 C.1.2.1 dX0_stayIn_14 (by decide) (fun c_7 => absurd c_7 (by decide)) (fun _ => ?_)
      refine lv_aload_n C.1.1 C.1.2.1 dX0_stayIn_17 rfl (lv_at hl 0 rfl) ?_
      refine lv_iload_n C.1.1 C.1.2.1 dX0_stayIn_18 rfl (lv_at hl 1 rfl) ?_
      refine a_B hS (run_V C hP hS hl.1 k 0 hk1 hk0 (by decide) rfl [.int x] (kX0_isTemptedBy l g n v k (by omega) hk0 x) gX0_stayIn_X0_isTemptedBy rfl hdX0_isTemptedBy rfl ⟨rfl, rfl⟩ ⟨Nat.le_of_ble_eq_true rfl, Nat.le_of_ble_eq_true rfl⟩ rfl [] rfl (Nat.le_of_ble_eq_true rfl) dX0_stayIn_19 ⟨Nat.zero_le _, Nat.zero_le _⟩) (fun b_8 H locs hP hS => ?_) (fun b_8 H locs hP hS => ?_)
      · skip
        refine lv_if_eq (tgt := 37) C.1.1 C.1.2.1 dX0_stayIn_22 (by decide) (fun c_9 => absurd c_9 (by decide)) (fun _ => ?_)
        refine lv_aload_n C.1.1 C.1.2.1 dX0_stayIn_25 rfl (lv_at hl 0 rfl) ?_
        refine lv_dup C.1.1 C.1.2.1 dX0_stayIn_26 rfl ?_
        refine r_get C hP k 0 hk1 hk0 (by decide) rfl hi0 2 (by decide) (List.mem_of_getElem? (i := 1) rfl) rfl (val := .int (v.1 k 2)) rfl dX0_stayIn_27 ?_
        refine lv_iconst (v := 1) C.1.1 C.1.2.1 dX0_stayIn_30 rfl ?_
        refine lv_iload_n C.1.1 C.1.2.1 dX0_stayIn_31 rfl (lv_at hl 1 rfl) ?_
        refine lv_ishl C.1.1 C.1.2.1 dX0_stayIn_32 ?_
        refine lv_ior C.1.1 C.1.2.1 dX0_stayIn_33 ?_
        refine r_put C hP hS k 0 hk1 hk0 (by decide) rfl hi0 tyX0 tyX0_ok nmX0 2 (by decide) (List.mem_of_getElem? (i := 1) rfl) rfl rfl rfl rfl rfl (Nat.le_of_ble_eq_true rfl) dX0_stayIn_34 (fun H locs hP hS => ?_)
        obtain ⟨d_11, hd_11⟩ : ∃ zz, zz = upd (v.1 k) 2 ((v.1 k 2) ||| (1 <<< (x &&& 31))) := ⟨_, rfl⟩
        rw [show up v k 2 ((v.1 k 2) ||| (1 <<< (x &&& 31))) = upw v k d_11 from by rw [hd_11]] at hP
        refine lv_aload_n C.1.1 C.1.2.1 dX0_stayIn_37 rfl (lv_at hl 0 rfl) ?_
        refine lv_bipush (v := 99) C.1.1 C.1.2.1 dX0_stayIn_38 rfl ?_
        refine lv_aload_n C.1.1 C.1.2.1 dX0_stayIn_40 rfl (lv_at hl 0 rfl) ?_
        refine r_get C hP k 0 hk1 hk0 (by decide) rfl hi0 3 (by decide) (List.mem_of_getElem? (i := 2) rfl) rfl (val := .int ((upw v k d_11).1 k 3)) rfl dX0_stayIn_41 ?_
        refine lv_topE (d_11 3) (by rw [upw_same]) ?_
        refine lv_aload_n C.1.1 C.1.2.1 dX0_stayIn_44 rfl (lv_at hl 0 rfl) ?_
        refine a_F hS (run_V C hP hS hl.1 k 0 hk1 hk0 (by decide) rfl [] (kX0_mending l g n (upw v k d_11) k (by omega) hk0) gX0_stayIn_X0_mending rfl hdX0_mending rfl ⟨rfl, rfl⟩ ⟨Nat.le_of_ble_eq_true rfl, Nat.le_of_ble_eq_true rfl⟩ rfl [.int (d_11 3), .int 99, .ref (gA g k)] rfl (Nat.le_of_ble_eq_true rfl) dX0_stayIn_45 ⟨Nat.zero_le _, Nat.zero_le _⟩) (fun H locs hP hS => ?_)
        refine lv_topE (mendF d_11) (by rw [upw_same]) ?_
        refine lv_iadd C.1.1 C.1.2.1 dX0_stayIn_48 ?_
        refine va_mmin C.1.1 C.1.2.1 (C.1.2.2.1.trans hl.1.symm) C.1.2.2.2.1 (C.1.2.2.2.2 _ (List.mem_of_getElem? (i := 3) rfl)) (C.1.2.2.2.2 _ (List.mem_of_getElem? (i := 4) rfl)) (C.1.2.2.2.2 _ (List.mem_of_getElem? (i := 5) rfl)) (C.1.2.2.2.2 _ (List.mem_of_getElem? (i := 6) rfl)) (Nat.le_of_ble_eq_true rfl) (Nat.le_of_ble_eq_true rfl) (Nat.le_refl _) (Nat.le_refl _) dX0_stayIn_49 ?_
        refine r_put C hP hS k 0 hk1 hk0 (by decide) rfl hi0 tyX0 tyX0_ok nmX0 3 (by decide) (List.mem_of_getElem? (i := 2) rfl) rfl rfl rfl rfl rfl (Nat.le_of_ble_eq_true rfl) dX0_stayIn_52 (fun H locs hP hS => ?_)
        obtain ⟨d_13, hd_13⟩ : ∃ zz, zz = upd d_11 3 (if (d_11 3) + (mendF d_11) < 99 then (d_11 3) + (mendF d_11) else 99) := ⟨_, rfl⟩
        rw [show up (upw v k d_11) k 3 (if (d_11 3) + (mendF d_11) < 99 then (d_11 3) + (mendF d_11) else 99) = upw v k d_13 from by rw [hd_13]; exact upw_up _ _ _ _ _] at hP
        exact t_G C rfl hP hS (by have e9 := lureR_t (R := v.1 k) (by assumption) (by assumption) (by assumption); subst hd_13 hd_11; unfold stayR; rw [e9]) dX0_stayIn_55
      · skip
        refine lv_if_eq (tgt := 37) C.1.1 C.1.2.1 dX0_stayIn_22 (by decide) (fun _ => ?_) (fun c_14 => absurd c_14 (by decide))
        refine lv_aload_n C.1.1 C.1.2.1 dX0_stayIn_37 rfl (lv_at hl 0 rfl) ?_
        refine lv_bipush (v := 99) C.1.1 C.1.2.1 dX0_stayIn_38 rfl ?_
        refine lv_aload_n C.1.1 C.1.2.1 dX0_stayIn_40 rfl (lv_at hl 0 rfl) ?_
        refine r_get C hP k 0 hk1 hk0 (by decide) rfl hi0 3 (by decide) (List.mem_of_getElem? (i := 2) rfl) rfl (val := .int (v.1 k 3)) rfl dX0_stayIn_41 ?_
        refine lv_aload_n C.1.1 C.1.2.1 dX0_stayIn_44 rfl (lv_at hl 0 rfl) ?_
        refine a_F hS (run_V C hP hS hl.1 k 0 hk1 hk0 (by decide) rfl [] (kX0_mending l g n v k (by omega) hk0) gX0_stayIn_X0_mending rfl hdX0_mending rfl ⟨rfl, rfl⟩ ⟨Nat.le_of_ble_eq_true rfl, Nat.le_of_ble_eq_true rfl⟩ rfl [.int (v.1 k 3), .int 99, .ref (gA g k)] rfl (Nat.le_of_ble_eq_true rfl) dX0_stayIn_45 ⟨Nat.zero_le _, Nat.zero_le _⟩) (fun H locs hP hS => ?_)
        refine lv_iadd C.1.1 C.1.2.1 dX0_stayIn_48 ?_
        refine va_mmin C.1.1 C.1.2.1 (C.1.2.2.1.trans hl.1.symm) C.1.2.2.2.1 (C.1.2.2.2.2 _ (List.mem_of_getElem? (i := 3) rfl)) (C.1.2.2.2.2 _ (List.mem_of_getElem? (i := 4) rfl)) (C.1.2.2.2.2 _ (List.mem_of_getElem? (i := 5) rfl)) (C.1.2.2.2.2 _ (List.mem_of_getElem? (i := 6) rfl)) (Nat.le_of_ble_eq_true rfl) (Nat.le_of_ble_eq_true rfl) (Nat.le_refl _) (Nat.le_refl _) dX0_stayIn_49 ?_
        refine r_put C hP hS k 0 hk1 hk0 (by decide) rfl hi0 tyX0 tyX0_ok nmX0 3 (by decide) (List.mem_of_getElem? (i := 2) rfl) rfl rfl rfl rfl rfl (Nat.le_of_ble_eq_true rfl) dX0_stayIn_52 (fun H locs hP hS => ?_)
        obtain ⟨d_16, hd_16⟩ : ∃ zz, zz = upd (v.1 k) 3 (if (v.1 k 3) + (mendF (v.1 k)) < 99 then (v.1 k 3) + (mendF (v.1 k)) else 99) := ⟨_, rfl⟩
        rw [show up v k 3 (if (v.1 k 3) + (mendF (v.1 k)) < 99 then (v.1 k 3) + (mendF (v.1 k)) else 99) = upw v k d_16 from by rw [hd_16]] at hP
        exact t_G C rfl hP hS (by have e9 := (by first | exact lureR_f1 (R := v.1 k) (by assumption) | exact lureR_f2 (R := v.1 k) (by assumption) | exact lureR_f3 (R := v.1 k) (by assumption) : lureR (v.1 k) x y z = v.1 k); subst hd_16; unfold stayR; rw [e9]) dX0_stayIn_55
    · skip
      refine lv_if_eq (tgt := 37) C.1.1 C.1.2.1 dX0_stayIn_14 (by decide) (fun _ => ?_) (fun c_17 => absurd c_17 (by decide))
      refine lv_aload_n C.1.1 C.1.2.1 dX0_stayIn_37 rfl (lv_at hl 0 rfl) ?_
      refine lv_bipush (v := 99) C.1.1 C.1.2.1 dX0_stayIn_38 rfl ?_
      refine lv_aload_n C.1.1 C.1.2.1 dX0_stayIn_40 rfl (lv_at hl 0 rfl) ?_
      refine r_get C hP k 0 hk1 hk0 (by decide) rfl hi0 3 (by decide) (List.mem_of_getElem? (i := 2) rfl) rfl (val := .int (v.1 k 3)) rfl dX0_stayIn_41 ?_
      refine lv_aload_n C.1.1 C.1.2.1 dX0_stayIn_44 rfl (lv_at hl 0 rfl) ?_
      refine a_F hS (run_V C hP hS hl.1 k 0 hk1 hk0 (by decide) rfl [] (kX0_mending l g n v k (by omega) hk0) gX0_stayIn_X0_mending rfl hdX0_mending rfl ⟨rfl, rfl⟩ ⟨Nat.le_of_ble_eq_true rfl, Nat.le_of_ble_eq_true rfl⟩ rfl [.int (v.1 k 3), .int 99, .ref (gA g k)] rfl (Nat.le_of_ble_eq_true rfl) dX0_stayIn_45 ⟨Nat.zero_le _, Nat.zero_le _⟩) (fun H locs hP hS => ?_)
      refine lv_iadd C.1.1 C.1.2.1 dX0_stayIn_48 ?_
      refine va_mmin C.1.1 C.1.2.1 (C.1.2.2.1.trans hl.1.symm) C.1.2.2.2.1 (C.1.2.2.2.2 _ (List.mem_of_getElem? (i := 3) rfl)) (C.1.2.2.2.2 _ (List.mem_of_getElem? (i := 4) rfl)) (C.1.2.2.2.2 _ (List.mem_of_getElem? (i := 5) rfl)) (C.1.2.2.2.2 _ (List.mem_of_getElem? (i := 6) rfl)) (Nat.le_of_ble_eq_true rfl) (Nat.le_of_ble_eq_true rfl) (Nat.le_refl _) (Nat.le_refl _) dX0_stayIn_49 ?_
      refine r_put C hP hS k 0 hk1 hk0 (by decide) rfl hi0 tyX0 tyX0_ok nmX0 3 (by decide) (List.mem_of_getElem? (i := 2) rfl) rfl rfl rfl rfl rfl (Nat.le_of_ble_eq_true rfl) dX0_stayIn_52 (fun H locs hP hS => ?_)
      obtain ⟨d_19, hd_19⟩ : ∃ zz, zz = upd (v.1 k) 3 (if (v.1 k 3) + (mendF (v.1 k)) < 99 then (v.1 k 3) + (mendF (v.1 k)) else 99) := ⟨_, rfl⟩
      rw [show up v k 3 (if (v.1 k 3) + (mendF (v.1 k)) < 99 then (v.1 k 3) + (mendF (v.1 k)) else 99) = upw v k d_19 from by rw [hd_19]] at hP
      exact t_G C rfl hP hS (by have e9 := (by first | exact lureR_f1 (R := v.1 k) (by assumption) | exact lureR_f2 (R := v.1 k) (by assumption) | exact lureR_f3 (R := v.1 k) (by assumption) : lureR (v.1 k) x y z = v.1 k); subst hd_19; unfold stayR; rw [e9]) dX0_stayIn_55

