abbrev rmX4_readUpTo : Room := { frames := 2, cells := 0, slots := 0, locals := 44 }
set_option maxHeartbeats 4000000 in
set_option maxRecDepth 100000 in
theorem kX4_readUpTo (l : Launch) (g : GG) (n : Nat) (v : SV) (w : SV) (B : Nat → Int32) (T : Nat) (hT : T ≤ 120) (hL : w.1 41 1 = nI T) (hB : ∀ j, j < T → w.1 42 j = B j) (hB1 : ∀ j, T ≤ j → B j = -1) (q0 : Nat) (hc : q0 ≤ T) (it nm : Int32) (D : Nat → Int32) (hv : v = stW (rcW w B T q0 it nm) 14 D) (hn65 : 64 < n) (y : Int32) (Y : Nat) (hy : y = nI Y) (hY : Y ≤ 9999) : Met l yX4_readUpTo wsX4_readUpTo rmX4_readUpTo (PW g n v [.ref (gA g 64), .int y]) (QI g n (RUp w B T q0 it nm D y)) 0 0 (wA g n) := by
  refine Met.begin RX4 rfl (by decide) rfl (Nat.le_of_ble_eq_true rfl) ?_
  intro p e s m args below meth c ls ha C hP hS hl
  have hn : 64 ≤ n := C.2.1.1.2.1
  have hi3 : ∀ w ∈ u_ws RX3 TX3 6, w ∈ wsX4_readUpTo := by decide +kernel
  have hi4 : ∀ w ∈ u_ws RX4 TX4 4, w ∈ wsX4_readUpTo := by decide +kernel
  have hl : lv_has ls 2 [(0, .ref (gA g 64)), (1, .int y)] := hl
  subst hv
  refine lv_aload_n C.1.1 C.1.2.1 dX4_readUpTo_0 rfl (lv_at hl 0 rfl) ?_
  refine r_get C hP 64 4 hn65 rfl (by decide) rfl hi4 0 (by decide) (List.mem_of_getElem? (i := 1) rfl) rfl (val := .ref (gA g 41)) rfl dX4_readUpTo_1 ?_
  refine r_get C hP 41 3 (Nat.lt_of_lt_of_le (by decide) hn) rfl (by decide) rfl hi3 2 (by decide) (List.mem_of_getElem? (i := 2) rfl) rfl (val := .int ((stW (rcW w B T q0 it nm) 14 D).1 41 2)) rfl dX4_readUpTo_4 ?_
  refine lv_topE (tkK B T q0) rc_2t ?_
  refine lv_iconst (v := 2) C.1.1 C.1.2.1 dX4_readUpTo_7 rfl ?_
  refine lv_icmp_ne (tgt := 22) C.1.1 C.1.2.1 dX4_readUpTo_8 (by decide) (fun c_1 => ?_) (fun c_1 => ?_)
  · skip
    refine lv_iconst (v := 0) C.1.1 C.1.2.1 dX4_readUpTo_22 rfl ?_
    exact r_zret C rfl hP hS rfl (Or.inr ⟨rfl, fun z => c_1 z.1, rfl⟩) dX4_readUpTo_23
  · skip
    refine lv_aload_n C.1.1 C.1.2.1 dX4_readUpTo_11 rfl (lv_at hl 0 rfl) ?_
    refine r_get C hP 64 4 hn65 rfl (by decide) rfl hi4 0 (by decide) (List.mem_of_getElem? (i := 1) rfl) rfl (val := .ref (gA g 41)) rfl dX4_readUpTo_12 ?_
    refine r_get C hP 41 3 (Nat.lt_of_lt_of_le (by decide) hn) rfl (by decide) rfl hi3 4 (by decide) (List.mem_of_getElem? (i := 3) rfl) rfl (val := .int ((stW (rcW w B T q0 it nm) 14 D).1 41 4)) rfl dX4_readUpTo_15 ?_
    refine lv_topE (vlC B T q0) rc_4t ?_
    refine lv_iload_n C.1.1 C.1.2.1 dX4_readUpTo_18 rfl (lv_at hl 1 rfl) ?_
    refine lv_icmp_le (tgt := 24) C.1.1 C.1.2.1 dX4_readUpTo_19 (by decide) (fun c_2 => ?_) (fun c_2 => ?_)
    · skip
      refine lv_aload_n C.1.1 C.1.2.1 dX4_readUpTo_24 rfl (lv_at hl 0 rfl) ?_
      refine lv_aload_n C.1.1 C.1.2.1 dX4_readUpTo_25 rfl (lv_at hl 0 rfl) ?_
      refine r_get C hP 64 4 hn65 rfl (by decide) rfl hi4 0 (by decide) (List.mem_of_getElem? (i := 1) rfl) rfl (val := .ref (gA g 41)) rfl dX4_readUpTo_26 ?_
      refine r_get C hP 41 3 (Nat.lt_of_lt_of_le (by decide) hn) rfl (by decide) rfl hi3 4 (by decide) (List.mem_of_getElem? (i := 3) rfl) rfl (val := .int ((stW (rcW w B T q0 it nm) 14 D).1 41 4)) rfl dX4_readUpTo_29 ?_
      refine lv_topE (vlC B T q0) rc_4t ?_
      refine r_put C hP hS 64 4 hn65 rfl (by decide) rfl hi4 tyX4 tyX4_ok nmX4 3 (by decide) (List.mem_of_getElem? (i := 4) rfl) rfl rfl rfl rfl rfl (Nat.le_of_ble_eq_true rfl) dX4_readUpTo_32 (fun H locs hP hS => ?_)
      rw [show up (stW (rcW w B T q0 it nm) 14 D) 64 3 (vlC B T q0) = stW (rcW w B T q0 it (vlC B T q0)) 14 D from rc_3] at hP
      refine lv_aload_n C.1.1 C.1.2.1 dX4_readUpTo_35 rfl (lv_at hl 0 rfl) ?_
      refine r_get C hP 64 4 hn65 rfl (by decide) rfl hi4 0 (by decide) (List.mem_of_getElem? (i := 1) rfl) rfl (val := .ref (gA g 41)) rfl dX4_readUpTo_36 ?_
      refine a_G hS (run_V C hP hS hl.1 41 3 (Nat.lt_of_lt_of_le (by decide) hn) rfl (by decide) rfl [] (kX3_readNext l g n (stW (rcW w B T q0 it (vlC B T q0)) 14 D) B T hT (rc_L hL) (rc_b hB) hB1 (tnE B T q0) (tnE_le hc) rc_5t) gX4_readUpTo_X3_readNext rfl hdX3_readNext rfl ⟨rfl, rfl⟩ ⟨Nat.le_of_ble_eq_true rfl, Nat.le_of_ble_eq_true rfl⟩ rfl [] rfl (Nat.le_of_ble_eq_true rfl) dX4_readUpTo_39 ⟨Nat.zero_le _, Nat.zero_le _⟩) (fun H locs hP hS => ?_)
      rw [show ctV (stW (rcW w B T q0 it (vlC B T q0)) 14 D) B T (skp B T (tnE B T q0)) = stW (rcW w B T (nx B T q0) it (vlC B T q0)) 14 D from by rw [tn_nx c_1 (by decide), rc_ct]] at hP
      refine lv_iconst (v := 1) C.1.1 C.1.2.1 dX4_readUpTo_42 rfl ?_
      exact r_zret C rfl hP hS rfl (Or.inl ⟨rfl, ⟨c_1, (vl_iff c_1 hy hY).1.mp c_2⟩, by rw [(vl_iff c_1 hy hY).2 ((vl_iff c_1 hy hY).1.mp c_2)]⟩) dX4_readUpTo_43
    · skip
      refine lv_iconst (v := 0) C.1.1 C.1.2.1 dX4_readUpTo_22 rfl ?_
      exact r_zret C rfl hP hS rfl (Or.inr ⟨rfl, fun z => c_2 ((vl_iff z.1 hy hY).1.mpr z.2), rfl⟩) dX4_readUpTo_23

abbrev rmX4_readPerhaps : Room := { frames := 5, cells := 0, slots := 0, locals := 107 }
set_option maxHeartbeats 4000000 in
set_option maxRecDepth 100000 in
theorem kX4_readPerhaps (l : Launch) (g : GG) (n : Nat) (v : SV) (w : SV) (B : Nat → Int32) (T : Nat) (hT : T ≤ 120) (hL : w.1 41 1 = nI T) (hB : ∀ j, j < T → w.1 42 j = B j) (hB1 : ∀ j, T ≤ j → B j = -1) (q0 : Nat) (hc : q0 ≤ T) (it nm : Int32) (D : Nat → Int32) (hv : v = stW (rcW w B T q0 it nm) 14 D) (hn65 : 64 < n) (i : Nat) (hi : i < 15) (y : Int32) (Y : Nat) (hy : y = nI Y) (hY : Y ≤ 9999) (mo : Nat) (hmo : mo ≤ Y) : Met l yX4_readPerhaps wsX4_readPerhaps rmX4_readPerhaps (PW g n v [.ref (gA g 64), .ref (gK g i), .int y, .int (nI mo)]) (QI g n (RPh w B T q0 it D i y Y mo)) 0 0 (wA g n) := by
  refine Met.begin RX4 rfl (by decide) rfl (Nat.le_of_ble_eq_true rfl) ?_
  intro p e s m args below meth c ls ha C hP hS hl
  have hn : 64 ≤ n := C.2.1.1.2.1
  have hi3 : ∀ w ∈ u_ws RX3 TX3 6, w ∈ wsX4_readPerhaps := by decide +kernel
  have hi4 : ∀ w ∈ u_ws RX4 TX4 4, w ∈ wsX4_readPerhaps := by decide +kernel
  have hl : lv_has ls 4 [(0, .ref (gA g 64)), (1, .ref (gK g i)), (2, .int y), (3, .int (nI mo))] := hl
  subst hv
  refine lv_aload_n C.1.1 C.1.2.1 dX4_readPerhaps_0 rfl (lv_at hl 0 rfl) ?_
  refine r_get C hP 64 4 hn65 rfl (by decide) rfl hi4 0 (by decide) (List.mem_of_getElem? (i := 1) rfl) rfl (val := .ref (gA g 41)) rfl dX4_readPerhaps_1 ?_
  refine lv_aload_n C.1.1 C.1.2.1 dX4_readPerhaps_4 rfl (lv_at hl 1 rfl) ?_
  refine a_B hS (run_V C hP hS hl.1 41 3 (Nat.lt_of_lt_of_le (by decide) hn) rfl (by decide) rfl [.ref (gK g i)] (kX3_isWord l g n (stW (rcW w B T q0 it nm) 14 D) B T hT (rc_L hL) (rc_b hB) hB1 i hi q0 hc rc_2t rc_3t rc_5t) gX4_readPerhaps_X3_isWord rfl hdX3_isWord rfl ⟨rfl, rfl⟩ ⟨Nat.le_of_ble_eq_true rfl, Nat.le_of_ble_eq_true rfl⟩ rfl [] rfl (Nat.le_of_ble_eq_true rfl) dX4_readPerhaps_5 ⟨Nat.zero_le _, Nat.zero_le _⟩) (fun b_1 H locs hP hS => ?_) (fun b_1 H locs hP hS => ?_)
  · skip
    refine lv_if_ne (tgt := 18) C.1.1 C.1.2.1 dX4_readPerhaps_8 (by decide) (fun _ => ?_) (fun c_2 => absurd c_2 (by decide))
    refine lv_aload_n C.1.1 C.1.2.1 dX4_readPerhaps_18 rfl (lv_at hl 0 rfl) ?_
    refine r_get C hP 64 4 hn65 rfl (by decide) rfl hi4 0 (by decide) (List.mem_of_getElem? (i := 1) rfl) rfl (val := .ref (gA g 41)) rfl dX4_readPerhaps_19 ?_
    refine a_G hS (run_V C hP hS hl.1 41 3 (Nat.lt_of_lt_of_le (by decide) hn) rfl (by decide) rfl [] (kX3_readNext l g n (stW (rcW w B T q0 it nm) 14 D) B T hT (rc_L hL) (rc_b hB) hB1 (tnE B T q0) (tnE_le hc) rc_5t) gX4_readPerhaps_X3_readNext rfl hdX3_readNext rfl ⟨rfl, rfl⟩ ⟨Nat.le_of_ble_eq_true rfl, Nat.le_of_ble_eq_true rfl⟩ rfl [] rfl (Nat.le_of_ble_eq_true rfl) dX4_readPerhaps_22 ⟨Nat.zero_le _, Nat.zero_le _⟩) (fun H locs hP hS => ?_)
    rw [show ctV (stW (rcW w B T q0 it nm) 14 D) B T (skp B T (tnE B T q0)) = stW (rcW w B T (nx B T q0) it nm) 14 D from by rw [tn_nx b_1.1 (by decide), rc_ct]] at hP
    refine lv_aload_n C.1.1 C.1.2.1 dX4_readPerhaps_25 rfl (lv_at hl 0 rfl) ?_
    refine lv_iload_n C.1.1 C.1.2.1 dX4_readPerhaps_26 rfl (lv_at hl 2 rfl) ?_
    refine a_I hS (run_V C hP hS hl.1 64 4 hn65 rfl (by decide) rfl [.int y] (kX4_readUpTo l g n (stW (rcW w B T (nx B T q0) it nm) 14 D) w B T hT hL hB hB1 (nx B T q0) (nx_le' hc) it nm D rfl hn65 y Y hy hY) gX4_readPerhaps_X4_readUpTo rfl hdX4_readUpTo rfl ⟨rfl, rfl⟩ ⟨Nat.le_of_ble_eq_true rfl, Nat.le_of_ble_eq_true rfl⟩ rfl [] rfl (Nat.le_of_ble_eq_true rfl) dX4_readPerhaps_27 ⟨Nat.zero_le _, Nat.zero_le _⟩) (fun r u H locs hq hP hS => ?_)
    rcases hq with ⟨rfl, hnh3, rfl⟩ | ⟨rfl, hnh3, rfl⟩
    · obtain ⟨m3, hm3, em3⟩ := nhP_nat (m := Y) (y := y) hy hY hnh3
      rw [em3] at hP
      exact r_zret C rfl hP hS rfl (Or.inl ⟨rfl, _, m3, (nx_le' (nx_le' hc)), hm3, rfl, fun d j _ => by rw [ph_yes b_1 hnh3, em3]⟩) dX4_readPerhaps_30
    · skip
      exact r_zret C rfl hP hS rfl (Or.inr ⟨rfl, _, _, (nx_le' hc), rfl, fun d j => ph_bad (Nat.lt_of_le_of_lt (nx_le' hc) (by omega)) b_1 hnh3⟩) dX4_readPerhaps_30
  · skip
    refine lv_if_ne (tgt := 18) C.1.1 C.1.2.1 dX4_readPerhaps_8 (by decide) (fun c_4 => absurd c_4 (by decide)) (fun _ => ?_)
    refine lv_aload_n C.1.1 C.1.2.1 dX4_readPerhaps_11 rfl (lv_at hl 0 rfl) ?_
    refine lv_iload_n C.1.1 C.1.2.1 dX4_readPerhaps_12 rfl (lv_at hl 3 rfl) ?_
    refine r_put C hP hS 64 4 hn65 rfl (by decide) rfl hi4 tyX4 tyX4_ok nmX4 3 (by decide) (List.mem_of_getElem? (i := 2) rfl) rfl rfl rfl rfl rfl (Nat.le_of_ble_eq_true rfl) dX4_readPerhaps_13 (fun H locs hP hS => ?_)
    rw [show up (stW (rcW w B T q0 it nm) 14 D) 64 3 (nI mo) = stW (rcW w B T q0 it (nI mo)) 14 D from rc_3] at hP
    refine lv_iconst (v := 1) C.1.1 C.1.2.1 dX4_readPerhaps_16 rfl ?_
    exact r_zret C rfl hP hS rfl (Or.inl ⟨rfl, q0, mo, hc, hmo, rfl, fun d j e => by rw [ph_no b_1, upd_eq e]⟩) dX4_readPerhaps_17

abbrev rmX4_readCrier : Room := { frames := 6, cells := 0, slots := 0, locals := 130 }
set_option maxHeartbeats 4000000 in
set_option maxRecDepth 100000 in
theorem kX4_readCrier (l : Launch) (g : GG) (n : Nat) (v : SV) (w : SV) (B : Nat → Int32) (T : Nat) (hT : T ≤ 120) (hL : w.1 41 1 = nI T) (hB : ∀ j, j < T → w.1 42 j = B j) (hB1 : ∀ j, T ≤ j → B j = -1) (q0 : Nat) (hc : q0 ≤ T) (it nm : Int32) (D : Nat → Int32) (hv : v = stW (rcW w B T q0 it nm) 14 D) (hn65 : 64 < n) (hk1 : tkK B T q0 = 1) (N : Nat) (d : Nat → Int32) (hD : okC D N) (hA : agr N d D) : Met l yX4_readCrier wsX4_readCrier rmX4_readCrier (PW g n v [.ref (gA g 64)]) (QI g n (CR w B T it (crF B T (q0, -1, d)))) 0 0 (wA g n) := by
  refine Met.begin RX4 rfl (by decide) rfl (Nat.le_of_ble_eq_true rfl) ?_
  intro p e s m args below meth c ls ha C hP hS hl
  have hn : 64 ≤ n := C.2.1.1.2.1
  have hi2 : ∀ w ∈ u_ws RX2 TX2 11, w ∈ wsX4_readCrier := by decide +kernel
  have hi3 : ∀ w ∈ u_ws RX3 TX3 6, w ∈ wsX4_readCrier := by decide +kernel
  have hi4 : ∀ w ∈ u_ws RX4 TX4 4, w ∈ wsX4_readCrier := by decide +kernel
  have hl : lv_has ls 1 [(0, .ref (gA g 64))] := hl
  subst hv
  obtain ⟨mp, hmp, emp⟩ := hD.2.2 4 (by decide) (by decide) (by decide) (Or.inl (by decide))
  obtain ⟨ml, hml, eml⟩ := hD.2.2 5 (by decide) (by decide) (by decide) (Or.inl (by decide))
  rw [show tp N 4 = 6 from rfl] at hmp
  rw [show tp N 5 = 10 from rfl] at hml
  refine lv_aload_n C.1.1 C.1.2.1 dX4_readCrier_0 rfl (lv_at hl 0 rfl) ?_
  refine r_get C hP 64 4 hn65 rfl (by decide) rfl hi4 0 (by decide) (List.mem_of_getElem? (i := 1) rfl) rfl (val := .ref (gA g 41)) rfl dX4_readCrier_1 ?_
  refine a_G hS (run_V C hP hS hl.1 41 3 (Nat.lt_of_lt_of_le (by decide) hn) rfl (by decide) rfl [] (kX3_readNext l g n (stW (rcW w B T q0 it nm) 14 D) B T hT (rc_L hL) (rc_b hB) hB1 (tnE B T q0) (tnE_le hc) rc_5t) gX4_readCrier_X3_readNext rfl hdX3_readNext rfl ⟨rfl, rfl⟩ ⟨Nat.le_of_ble_eq_true rfl, Nat.le_of_ble_eq_true rfl⟩ rfl [] rfl (Nat.le_of_ble_eq_true rfl) dX4_readCrier_4 ⟨Nat.zero_le _, Nat.zero_le _⟩) (fun H locs hP hS => ?_)
  rw [show ctV (stW (rcW w B T q0 it nm) 14 D) B T (skp B T (tnE B T q0)) = stW (rcW w B T (nx B T q0) it nm) 14 D from by rw [tn_nx hk1 (by decide), rc_ct]] at hP
  refine lv_aload_n C.1.1 C.1.2.1 dX4_readCrier_7 rfl (lv_at hl 0 rfl) ?_
  refine lv_bipush (v := 15) C.1.1 C.1.2.1 dX4_readCrier_8 rfl ?_
  refine a_I hS (run_V C hP hS hl.1 64 4 hn65 rfl (by decide) rfl [.int 15] (kX4_readUpTo l g n (stW (rcW w B T (nx B T q0) it nm) 14 D) w B T hT hL hB hB1 (nx B T q0) (nx_le' hc) it nm D rfl hn65 15 15 rfl (by decide)) gX4_readCrier_X4_readUpTo rfl hdX4_readUpTo rfl ⟨rfl, rfl⟩ ⟨Nat.le_of_ble_eq_true rfl, Nat.le_of_ble_eq_true rfl⟩ rfl [] rfl (Nat.le_of_ble_eq_true rfl) dX4_readCrier_10 ⟨Nat.zero_le _, Nat.zero_le _⟩) (fun r u H locs hq hP hS => ?_)
  rcases hq with ⟨rfl, hnh1, rfl⟩ | ⟨rfl, hnh1, rfl⟩
  · obtain ⟨m1, hm1, em1⟩ := nhP_nat (m := 15) (y := 15) rfl (by decide) hnh1
    rw [em1] at hP
    refine lv_if_ne (tgt := 18) C.1.1 C.1.2.1 dX4_readCrier_13 (by decide) (fun _ => ?_) (fun c_2 => absurd c_2 (by decide))
    refine lv_aload_n C.1.1 C.1.2.1 dX4_readCrier_18 rfl (lv_at hl 0 rfl) ?_
    refine r_get C hP 64 4 hn65 rfl (by decide) rfl hi4 1 (by decide) (List.mem_of_getElem? (i := 2) rfl) rfl (val := .ref (gA g 14)) rfl dX4_readCrier_19 ?_
    refine lv_aload_n C.1.1 C.1.2.1 dX4_readCrier_22 rfl (lv_at hl 0 rfl) ?_
    refine r_get C hP 64 4 hn65 rfl (by decide) rfl hi4 3 (by decide) (List.mem_of_getElem? (i := 3) rfl) rfl (val := .int ((stW (rcW w B T (nx B T (nx B T q0)) it (nI m1)) 14 D).1 64 3)) rfl dX4_readCrier_23 ?_
    refine lv_topE (nI m1) (congrFun rc_64 _) ?_
    refine r_put C hP hS 14 2 (Nat.lt_of_lt_of_le (by decide) hn) rfl (by decide) rfl hi2 tyX2 tyX2_ok nmX2 0 (by decide) (List.mem_of_getElem? (i := 4) rfl) rfl rfl rfl rfl rfl (Nat.le_of_ble_eq_true rfl) dX4_readCrier_26 (fun H locs hP hS => ?_)
    rw [show up (stW (rcW w B T (nx B T (nx B T q0)) it (nI m1)) 14 D) 14 0 (nI m1) = stW (rcW w B T (nx B T (nx B T q0)) it (nI m1)) 14 (upd D 3 (nI m1)) from st_up (i := 3) (sl_k rfl) (by decide)] at hP
    refine lv_aload_n C.1.1 C.1.2.1 dX4_readCrier_29 rfl (lv_at hl 0 rfl) ?_
    refine va_ldcS C.1.1 C.1.2.1 C.1.2.2.2.1 (C.2.1.2.2.2.2.2.2.2.2.2 13 (by decide)) dX4_readCrier_30 ?_
    refine lv_iconst (v := 5) C.1.1 C.1.2.1 dX4_readCrier_32 rfl ?_
    refine lv_aload_n C.1.1 C.1.2.1 dX4_readCrier_33 rfl (lv_at hl 0 rfl) ?_
    refine r_get C hP 64 4 hn65 rfl (by decide) rfl hi4 1 (by decide) (List.mem_of_getElem? (i := 2) rfl) rfl (val := .ref (gA g 14)) rfl dX4_readCrier_34 ?_
    refine r_get C hP 14 2 (Nat.lt_of_lt_of_le (by decide) hn) rfl (by decide) rfl hi2 1 (by decide) (List.mem_of_getElem? (i := 5) rfl) rfl (val := .int ((stW (rcW w B T (nx B T (nx B T q0)) it (nI m1)) 14 (upd D 3 (nI m1))).1 14 1)) rfl dX4_readCrier_37 ?_
    refine lv_topE (nI mp) ((st_at (i := 4) (sl_k rfl) (by decide)).trans ((pk_un (by omega)).trans emp)) ?_
    refine a_I hS (run_V C hP hS hl.1 64 4 hn65 rfl (by decide) rfl [.ref (gK g 13), .int 5, .int (nI mp)] (kX4_readPerhaps l g n (stW (rcW w B T (nx B T (nx B T q0)) it (nI m1)) 14 (upd D 3 (nI m1))) w B T hT hL hB hB1 (nx B T (nx B T q0)) (nx_le' (nx_le' hc)) it (nI m1) (upd D 3 (nI m1)) rfl hn65 13 (by decide) 5 5 rfl (by decide) mp (by omega)) gX4_readCrier_X4_readPerhaps rfl hdX4_readPerhaps rfl ⟨rfl, rfl⟩ ⟨Nat.le_of_ble_eq_true rfl, Nat.le_of_ble_eq_true rfl⟩ rfl [] rfl (Nat.le_of_ble_eq_true rfl) dX4_readCrier_40 ⟨Nat.zero_le _, Nat.zero_le _⟩) (fun r u H locs hq hP hS => ?_)
    rcases hq with ⟨rfl, p4, m4, hp4, hm4, rfl, hph4⟩ | ⟨rfl, p4, n4, hp4, rfl, hph4⟩
    · skip
      refine lv_if_ne (tgt := 48) C.1.1 C.1.2.1 dX4_readCrier_43 (by decide) (fun _ => ?_) (fun c_5 => absurd c_5 (by decide))
      refine lv_aload_n C.1.1 C.1.2.1 dX4_readCrier_48 rfl (lv_at hl 0 rfl) ?_
      refine r_get C hP 64 4 hn65 rfl (by decide) rfl hi4 1 (by decide) (List.mem_of_getElem? (i := 2) rfl) rfl (val := .ref (gA g 14)) rfl dX4_readCrier_49 ?_
      refine lv_aload_n C.1.1 C.1.2.1 dX4_readCrier_52 rfl (lv_at hl 0 rfl) ?_
      refine r_get C hP 64 4 hn65 rfl (by decide) rfl hi4 3 (by decide) (List.mem_of_getElem? (i := 3) rfl) rfl (val := .int ((stW (rcW w B T p4 it (nI m4)) 14 (upd D 3 (nI m1))).1 64 3)) rfl dX4_readCrier_53 ?_
      refine lv_topE (nI m4) (congrFun rc_64 _) ?_
      refine r_put C hP hS 14 2 (Nat.lt_of_lt_of_le (by decide) hn) rfl (by decide) rfl hi2 tyX2 tyX2_ok nmX2 1 (by decide) (List.mem_of_getElem? (i := 5) rfl) rfl rfl rfl rfl rfl (Nat.le_of_ble_eq_true rfl) dX4_readCrier_56 (fun H locs hP hS => ?_)
      rw [show up (stW (rcW w B T p4 it (nI m4)) 14 (upd D 3 (nI m1))) 14 1 (nI m4) = stW (rcW w B T p4 it (nI m4)) 14 (upd (upd D 3 (nI m1)) 4 (nI m4)) from st_up (i := 4) (sl_k rfl) (by decide)] at hP
      refine lv_aload_n C.1.1 C.1.2.1 dX4_readCrier_59 rfl (lv_at hl 0 rfl) ?_
      refine va_ldcS C.1.1 C.1.2.1 C.1.2.2.2.1 (C.2.1.2.2.2.2.2.2.2.2.2 14 (by decide)) dX4_readCrier_60 ?_
      refine lv_bipush (v := 9) C.1.1 C.1.2.1 dX4_readCrier_62 rfl ?_
      refine lv_aload_n C.1.1 C.1.2.1 dX4_readCrier_64 rfl (lv_at hl 0 rfl) ?_
      refine r_get C hP 64 4 hn65 rfl (by decide) rfl hi4 1 (by decide) (List.mem_of_getElem? (i := 2) rfl) rfl (val := .ref (gA g 14)) rfl dX4_readCrier_65 ?_
      refine r_get C hP 14 2 (Nat.lt_of_lt_of_le (by decide) hn) rfl (by decide) rfl hi2 2 (by decide) (List.mem_of_getElem? (i := 6) rfl) rfl (val := .int ((stW (rcW w B T p4 it (nI m4)) 14 (upd (upd D 3 (nI m1)) 4 (nI m4))).1 14 2)) rfl dX4_readCrier_68 ?_
      refine lv_topE (nI ml) ((st_at (i := 5) (sl_k rfl) (by decide)).trans ((pk_un (by omega)).trans ((pk_un (by omega)).trans eml))) ?_
      refine a_I hS (run_V C hP hS hl.1 64 4 hn65 rfl (by decide) rfl [.ref (gK g 14), .int 9, .int (nI ml)] (kX4_readPerhaps l g n (stW (rcW w B T p4 it (nI m4)) 14 (upd (upd D 3 (nI m1)) 4 (nI m4))) w B T hT hL hB hB1 p4 hp4 it (nI m4) (upd (upd D 3 (nI m1)) 4 (nI m4)) rfl hn65 14 (by decide) 9 9 rfl (by decide) ml (by omega)) gX4_readCrier_X4_readPerhaps rfl hdX4_readPerhaps rfl ⟨rfl, rfl⟩ ⟨Nat.le_of_ble_eq_true rfl, Nat.le_of_ble_eq_true rfl⟩ rfl [] rfl (Nat.le_of_ble_eq_true rfl) dX4_readCrier_71 ⟨Nat.zero_le _, Nat.zero_le _⟩) (fun r u H locs hq hP hS => ?_)
      rcases hq with ⟨rfl, p7, m7, hp7, hm7, rfl, hph7⟩ | ⟨rfl, p7, n7, hp7, rfl, hph7⟩
      · skip
        refine lv_if_ne (tgt := 79) C.1.1 C.1.2.1 dX4_readCrier_74 (by decide) (fun _ => ?_) (fun c_8 => absurd c_8 (by decide))
        refine lv_aload_n C.1.1 C.1.2.1 dX4_readCrier_79 rfl (lv_at hl 0 rfl) ?_
        refine r_get C hP 64 4 hn65 rfl (by decide) rfl hi4 1 (by decide) (List.mem_of_getElem? (i := 2) rfl) rfl (val := .ref (gA g 14)) rfl dX4_readCrier_80 ?_
        refine lv_aload_n C.1.1 C.1.2.1 dX4_readCrier_83 rfl (lv_at hl 0 rfl) ?_
        refine r_get C hP 64 4 hn65 rfl (by decide) rfl hi4 3 (by decide) (List.mem_of_getElem? (i := 3) rfl) rfl (val := .int ((stW (rcW w B T p7 it (nI m7)) 14 (upd (upd D 3 (nI m1)) 4 (nI m4))).1 64 3)) rfl dX4_readCrier_84 ?_
        refine lv_topE (nI m7) (congrFun rc_64 _) ?_
        refine r_put C hP hS 14 2 (Nat.lt_of_lt_of_le (by decide) hn) rfl (by decide) rfl hi2 tyX2 tyX2_ok nmX2 2 (by decide) (List.mem_of_getElem? (i := 6) rfl) rfl rfl rfl rfl rfl (Nat.le_of_ble_eq_true rfl) dX4_readCrier_87 (fun H locs hP hS => ?_)
        rw [show up (stW (rcW w B T p7 it (nI m7)) 14 (upd (upd D 3 (nI m1)) 4 (nI m4))) 14 2 (nI m7) = stW (rcW w B T p7 it (nI m7)) 14 (upd (upd (upd D 3 (nI m1)) 4 (nI m4)) 5 (nI m7)) from st_up (i := 5) (sl_k rfl) (by decide)] at hP
        refine lv_iconst (v := 1) C.1.1 C.1.2.1 dX4_readCrier_90 rfl ?_
        exact r_zret C rfl hP hS rfl (CR_1 (cr_ok hnh1 em1 (hph4 _ 4 ((pk_un (by omega)).trans ((agr_lo hA (by decide)).trans emp))) (hph7 _ 5 ((pk_un (by omega)).trans ((pk_un (by omega)).trans ((agr_lo hA (by decide)).trans eml))))) hp7 (okC_upd (okC_upd (okC_upd hD (by decide) (Or.inr ⟨m1, by show m1 < 16; omega, rfl⟩)) (by decide) (Or.inr ⟨m4, by show m4 < 6; omega, rfl⟩)) (by decide) (Or.inr ⟨m7, by show m7 < 10; omega, rfl⟩)) (agr_upd (agr_upd (agr_upd hA rfl) rfl) rfl)) dX4_readCrier_91
      · skip
        refine lv_if_ne (tgt := 79) C.1.1 C.1.2.1 dX4_readCrier_74 (by decide) (fun c_10 => absurd c_10 (by decide)) (fun _ => ?_)
        refine lv_iconst (v := 0) C.1.1 C.1.2.1 dX4_readCrier_77 rfl ?_
        exact r_zret C rfl hP hS rfl (CR_0 (cr_ok hnh1 em1 (hph4 _ 4 ((pk_un (by omega)).trans ((agr_lo hA (by decide)).trans emp))) (hph7 _ 5)) hp7) dX4_readCrier_78
    · skip
      refine lv_if_ne (tgt := 48) C.1.1 C.1.2.1 dX4_readCrier_43 (by decide) (fun c_11 => absurd c_11 (by decide)) (fun _ => ?_)
      refine lv_iconst (v := 0) C.1.1 C.1.2.1 dX4_readCrier_46 rfl ?_
      exact r_zret C rfl hP hS rfl (CR_0 (cr_ok hnh1 em1 (hph4 _ 4) (ph_skip (Nat.lt_of_le_of_lt hp4 (by omega)))) hp4) dX4_readCrier_47
  · skip
    refine lv_if_ne (tgt := 18) C.1.1 C.1.2.1 dX4_readCrier_13 (by decide) (fun c_12 => absurd c_12 (by decide)) (fun _ => ?_)
    refine lv_iconst (v := 0) C.1.1 C.1.2.1 dX4_readCrier_16 rfl ?_
    exact r_zret C rfl hP hS rfl (CR_0 (cr_bad (Nat.lt_of_le_of_lt (nx_le' hc) (by omega)) hnh1) (nx_le' hc)) dX4_readCrier_17

abbrev rmX4_readCry : Room := { frames := 3, cells := 0, slots := 0, locals := 65 }
set_option maxHeartbeats 4000000 in
set_option maxRecDepth 100000 in
theorem kX4_readCry (l : Launch) (g : GG) (n : Nat) (v : SV) (w : SV) (B : Nat → Int32) (T : Nat) (hT : T ≤ 120) (hL : w.1 41 1 = nI T) (hB : ∀ j, j < T → w.1 42 j = B j) (hB1 : ∀ j, T ≤ j → B j = -1) (q0 : Nat) (hc : q0 ≤ T) (it nm : Int32) (D : Nat → Int32) (hv : v = stW (rcW w B T q0 it nm) 14 D) (hn65 : 64 < n) (hk1 : tkK B T q0 = 1) (N : Nat) (d : Nat → Int32) (hD : okC D N) (hA : agr N d D) : Met l yX4_readCry wsX4_readCry rmX4_readCry (PW g n v [.ref (gA g 64)]) (QI g n (CR w B T it (cyF B T (q0, -1, d)))) 0 0 (wA g n) := by
  refine Met.begin RX4 rfl (by decide) rfl (Nat.le_of_ble_eq_true rfl) ?_
  intro p e s m args below meth c ls ha C hP hS hl
  have hn : 64 ≤ n := C.2.1.1.2.1
  have hi2 : ∀ w ∈ u_ws RX2 TX2 11, w ∈ wsX4_readCry := by decide +kernel
  have hi3 : ∀ w ∈ u_ws RX3 TX3 6, w ∈ wsX4_readCry := by decide +kernel
  have hi4 : ∀ w ∈ u_ws RX4 TX4 4, w ∈ wsX4_readCry := by decide +kernel
  have hl : lv_has ls 2 [(0, .ref (gA g 64))] := hl
  subst hv
  refine lv_aload_n C.1.1 C.1.2.1 dX4_readCry_0 rfl (lv_at hl 0 rfl) ?_
  refine r_get C hP 64 4 hn65 rfl (by decide) rfl hi4 0 (by decide) (List.mem_of_getElem? (i := 1) rfl) rfl (val := .ref (gA g 41)) rfl dX4_readCry_1 ?_
  refine a_G hS (run_V C hP hS hl.1 41 3 (Nat.lt_of_lt_of_le (by decide) hn) rfl (by decide) rfl [] (kX3_readNext l g n (stW (rcW w B T q0 it nm) 14 D) B T hT (rc_L hL) (rc_b hB) hB1 (tnE B T q0) (tnE_le hc) rc_5t) gX4_readCry_X3_readNext rfl hdX3_readNext rfl ⟨rfl, rfl⟩ ⟨Nat.le_of_ble_eq_true rfl, Nat.le_of_ble_eq_true rfl⟩ rfl [] rfl (Nat.le_of_ble_eq_true rfl) dX4_readCry_4 ⟨Nat.zero_le _, Nat.zero_le _⟩) (fun H locs hP hS => ?_)
  rw [show ctV (stW (rcW w B T q0 it nm) 14 D) B T (skp B T (tnE B T q0)) = stW (rcW w B T (nx B T q0) it nm) 14 D from by rw [tn_nx hk1 (by decide), rc_ct]] at hP
  refine lv_aload_n C.1.1 C.1.2.1 dX4_readCry_7 rfl (lv_at hl 0 rfl) ?_
  refine lv_iconst (v := 5) C.1.1 C.1.2.1 dX4_readCry_8 rfl ?_
  refine a_I hS (run_V C hP hS hl.1 64 4 hn65 rfl (by decide) rfl [.int 5] (kX4_readUpTo l g n (stW (rcW w B T (nx B T q0) it nm) 14 D) w B T hT hL hB hB1 (nx B T q0) (nx_le' hc) it nm D rfl hn65 5 5 rfl (by decide)) gX4_readCry_X4_readUpTo rfl hdX4_readUpTo rfl ⟨rfl, rfl⟩ ⟨Nat.le_of_ble_eq_true rfl, Nat.le_of_ble_eq_true rfl⟩ rfl [] rfl (Nat.le_of_ble_eq_true rfl) dX4_readCry_9 ⟨Nat.zero_le _, Nat.zero_le _⟩) (fun r u H locs hq hP hS => ?_)
  rcases hq with ⟨rfl, hnh1, rfl⟩ | ⟨rfl, hnh1, rfl⟩
  · obtain ⟨m1, hm1, em1⟩ := nhP_nat (m := 5) (y := 5) rfl (by decide) hnh1
    rw [em1] at hP
    refine lv_if_ne (tgt := 17) C.1.1 C.1.2.1 dX4_readCry_12 (by decide) (fun _ => ?_) (fun c_2 => absurd c_2 (by decide))
    refine lv_aload_n C.1.1 C.1.2.1 dX4_readCry_17 rfl (lv_at hl 0 rfl) ?_
    refine r_get C hP 64 4 hn65 rfl (by decide) rfl hi4 3 (by decide) (List.mem_of_getElem? (i := 2) rfl) rfl (val := .int ((stW (rcW w B T (nx B T (nx B T q0)) it (nI m1)) 14 D).1 64 3)) rfl dX4_readCry_18 ?_
    refine lv_topE (nI m1) (congrFun rc_64 _) ?_
    refine lv_istore_n (lv' := [(1, .int (nI m1)), (0, .ref (gA g 64))]) C.1.1 C.1.2.1 dX4_readCry_21 rfl hl (by decide) rfl (fun ls hl => ?_)
    refine lv_aload_n C.1.1 C.1.2.1 dX4_readCry_22 rfl (lv_at hl 1 rfl) ?_
    refine lv_bipush (v := 11) C.1.1 C.1.2.1 dX4_readCry_23 rfl ?_
    refine a_I hS (run_V C hP hS hl.1 64 4 hn65 rfl (by decide) rfl [.int 11] (kX4_readUpTo l g n (stW (rcW w B T (nx B T (nx B T q0)) it (nI m1)) 14 D) w B T hT hL hB hB1 (nx B T (nx B T q0)) (nx_le' (nx_le' hc)) it (nI m1) D rfl hn65 11 11 rfl (by decide)) gX4_readCry_X4_readUpTo rfl hdX4_readUpTo rfl ⟨rfl, rfl⟩ ⟨Nat.le_of_ble_eq_true rfl, Nat.le_of_ble_eq_true rfl⟩ rfl [] rfl (Nat.le_of_ble_eq_true rfl) dX4_readCry_25 ⟨Nat.zero_le _, Nat.zero_le _⟩) (fun r u H locs hq hP hS => ?_)
    rcases hq with ⟨rfl, hnh3, rfl⟩ | ⟨rfl, hnh3, rfl⟩
    · obtain ⟨m3, hm3, em3⟩ := nhP_nat (m := 11) (y := 11) rfl (by decide) hnh3
      rw [em3] at hP
      refine lv_if_ne (tgt := 33) C.1.1 C.1.2.1 dX4_readCry_28 (by decide) (fun _ => ?_) (fun c_4 => absurd c_4 (by decide))
      refine lv_aload_n C.1.1 C.1.2.1 dX4_readCry_33 rfl (lv_at hl 1 rfl) ?_
      refine r_get C hP 64 4 hn65 rfl (by decide) rfl hi4 1 (by decide) (List.mem_of_getElem? (i := 3) rfl) rfl (val := .ref (gA g 14)) rfl dX4_readCry_34 ?_
      refine r_get C hP 14 2 (Nat.lt_of_lt_of_le (by decide) hn) rfl (by decide) rfl hi2 3 (by decide) (List.mem_of_getElem? (i := 4) rfl) rfl (val := .ref (gA g 15)) rfl dX4_readCry_37 ?_
      refine lv_iload_n C.1.1 C.1.2.1 dX4_readCry_40 rfl (lv_at hl 0 rfl) ?_
      refine lv_aload_n C.1.1 C.1.2.1 dX4_readCry_41 rfl (lv_at hl 1 rfl) ?_
      refine r_get C hP 64 4 hn65 rfl (by decide) rfl hi4 3 (by decide) (List.mem_of_getElem? (i := 2) rfl) rfl (val := .int ((stW (rcW w B T (nx B T (nx B T (nx B T q0))) it (nI m3)) 14 D).1 64 3)) rfl dX4_readCry_42 ?_
      refine lv_topE (nI m3) (congrFun rc_64 _) ?_
      refine r_iast C hP hS 15 (Nat.lt_of_lt_of_le (by decide) hn) rfl m1 rfl (N := 6) rfl (by decide) (by omega) dX4_readCry_45 (fun H locs hP hS => ?_)
      rw [show up (stW (rcW w B T (nx B T (nx B T (nx B T q0))) it (nI m3)) 14 D) 15 m1 (nI m3) = stW (rcW w B T (nx B T (nx B T (nx B T q0))) it (nI m3)) 14 (upd D (7 + m1) (nI m3)) from st_up (i := 7 + m1) (sl_1 (by omega)) (by omega)] at hP
      refine lv_iconst (v := 1) C.1.1 C.1.2.1 dX4_readCry_46 rfl ?_
      exact r_zret C rfl hP hS rfl (CR_1 (cy_ok (by omega) hnh1 em1 hnh3 em3) (nx_le' (nx_le' (nx_le' hc))) (okC_list hD (by omega) (show m3 < 12 by omega) rfl) (agr_upd hA rfl)) dX4_readCry_47
    · skip
      refine lv_if_ne (tgt := 33) C.1.1 C.1.2.1 dX4_readCry_28 (by decide) (fun c_5 => absurd c_5 (by decide)) (fun _ => ?_)
      refine lv_iconst (v := 0) C.1.1 C.1.2.1 dX4_readCry_31 rfl ?_
      exact r_zret C rfl hP hS rfl (CR_0 (cy_b2 (Nat.lt_of_le_of_lt (nx_le' (nx_le' hc)) (by omega)) hnh1 hnh3) (nx_le' (nx_le' hc))) dX4_readCry_32
  · skip
    refine lv_if_ne (tgt := 17) C.1.1 C.1.2.1 dX4_readCry_12 (by decide) (fun c_6 => absurd c_6 (by decide)) (fun _ => ?_)
    refine lv_iconst (v := 0) C.1.1 C.1.2.1 dX4_readCry_15 rfl ?_
    exact r_zret C rfl hP hS rfl (CR_0 (cy_b1 (Nat.lt_of_le_of_lt (nx_le' hc) (by omega)) hnh1) (nx_le' hc)) dX4_readCry_16

abbrev rmX4_readResident : Room := { frames := 6, cells := 0, slots := 0, locals := 130 }
set_option maxHeartbeats 4000000 in
set_option maxRecDepth 100000 in
theorem kX4_readResident (l : Launch) (g : GG) (n : Nat) (v : SV) (w : SV) (B : Nat → Int32) (T : Nat) (hT : T ≤ 120) (hL : w.1 41 1 = nI T) (hB : ∀ j, j < T → w.1 42 j = B j) (hB1 : ∀ j, T ≤ j → B j = -1) (q0 : Nat) (hc : q0 ≤ T) (it nm : Int32) (D : Nat → Int32) (hv : v = stW (rcW w B T q0 it nm) 14 D) (hn65 : 64 < n) (kk : Nat) (hkk : kk < 7) (hk1 : tkK B T q0 = 1) (N : Nat) (d : Nat → Int32) (hD : okC D N) (hA : agr N d D) : Met l yX4_readResident wsX4_readResident rmX4_readResident (PW g n v [.ref (gA g 64), .int (nI kk)]) (QI g n (CR w B T it (reF B T (q0, -1, d) (nI kk)))) 0 0 (wA g n) := by
  refine Met.begin RX4 rfl (by decide) rfl (Nat.le_of_ble_eq_true rfl) ?_
  intro p e s m args below meth c ls ha C hP hS hl
  have hn : 64 ≤ n := C.2.1.1.2.1
  have hi0 : ∀ w ∈ u_ws RX0 TX0 6, w ∈ wsX4_readResident := by decide +kernel
  have hi2 : ∀ w ∈ u_ws RX2 TX2 11, w ∈ wsX4_readResident := by decide +kernel
  have hi3 : ∀ w ∈ u_ws RX3 TX3 6, w ∈ wsX4_readResident := by decide +kernel
  have hi4 : ∀ w ∈ u_ws RX4 TX4 4, w ∈ wsX4_readResident := by decide +kernel
  have hl : lv_has ls 4 [(0, .ref (gA g 64)), (1, .int (nI kk))] := hl
  subst hv
  have h8 := hD.1
  by_cases hN8 : N = 8
  · skip
    refine lv_aload_n C.1.1 C.1.2.1 dX4_readResident_0 rfl (lv_at hl 0 rfl) ?_
    refine r_get C hP 64 4 hn65 rfl (by decide) rfl hi4 1 (by decide) (List.mem_of_getElem? (i := 1) rfl) rfl (val := .ref (gA g 14)) rfl dX4_readResident_1 ?_
    refine lv_iload_n C.1.1 C.1.2.1 dX4_readResident_4 rfl (lv_at hl 1 rfl) ?_
    refine lv_iconst (v := 0) C.1.1 C.1.2.1 dX4_readResident_5 rfl ?_
    refine a_F hS (run_V C hP hS hl.1 14 2 (Nat.lt_of_lt_of_le (by decide) hn) rfl (by decide) rfl [.int (nI kk), .int 0] (kX2_moveIn l g n (stW (rcW w B T q0 it nm) 14 D) (nI kk) 0 (rcW w B T q0 it nm) 14 D N (Or.inr (Or.inl rfl)) rfl hD) gX4_readResident_X2_moveIn rfl hdX2_moveIn rfl ⟨rfl, rfl⟩ ⟨Nat.le_of_ble_eq_true rfl, Nat.le_of_ble_eq_true rfl⟩ rfl [] rfl (Nat.le_of_ble_eq_true rfl) dX4_readResident_6 ⟨Nat.zero_le _, Nat.zero_le _⟩) (fun H locs hP hS => ?_)
    rw [show stW (rcW w B T q0 it nm) 14 (if N = 8 then D else comesM D N (nI kk) 0) = stW (rcW w B T q0 it nm) 14 D from by rw [if_pos hN8]] at hP
    refine lv_topE (-1) (if_pos hN8) ?_
    refine lv_istore_n (lv' := [(2, .int (-1)), (0, .ref (gA g 64)), (1, .int (nI kk))]) C.1.1 C.1.2.1 dX4_readResident_9 rfl hl (by decide) rfl (fun ls hl => ?_)
    refine lv_iload_n C.1.1 C.1.2.1 dX4_readResident_10 rfl (lv_at hl 0 rfl) ?_
    refine lv_iconst (v := (-1)) C.1.1 C.1.2.1 dX4_readResident_11 rfl ?_
    refine lv_icmp_ne (tgt := 17) C.1.1 C.1.2.1 dX4_readResident_12 (by decide) (fun c_1 => absurd c_1 (by decide)) (fun _ => ?_)
    refine lv_iconst (v := 0) C.1.1 C.1.2.1 dX4_readResident_15 rfl ?_
    exact r_zret C rfl hP hS rfl (CR_0 (re_full ((agr_lo hA (by decide)).trans (hD.2.1.trans (by rw [hN8])))) hc) dX4_readResident_16
  · skip
    have hN7 : N < 8 := by omega
    refine lv_aload_n C.1.1 C.1.2.1 dX4_readResident_0 rfl (lv_at hl 0 rfl) ?_
    refine r_get C hP 64 4 hn65 rfl (by decide) rfl hi4 1 (by decide) (List.mem_of_getElem? (i := 1) rfl) rfl (val := .ref (gA g 14)) rfl dX4_readResident_1 ?_
    refine lv_iload_n C.1.1 C.1.2.1 dX4_readResident_4 rfl (lv_at hl 1 rfl) ?_
    refine lv_iconst (v := 0) C.1.1 C.1.2.1 dX4_readResident_5 rfl ?_
    refine a_F hS (run_V C hP hS hl.1 14 2 (Nat.lt_of_lt_of_le (by decide) hn) rfl (by decide) rfl [.int (nI kk), .int 0] (kX2_moveIn l g n (stW (rcW w B T q0 it nm) 14 D) (nI kk) 0 (rcW w B T q0 it nm) 14 D N (Or.inr (Or.inl rfl)) rfl hD) gX4_readResident_X2_moveIn rfl hdX2_moveIn rfl ⟨rfl, rfl⟩ ⟨Nat.le_of_ble_eq_true rfl, Nat.le_of_ble_eq_true rfl⟩ rfl [] rfl (Nat.le_of_ble_eq_true rfl) dX4_readResident_6 ⟨Nat.zero_le _, Nat.zero_le _⟩) (fun H locs hP hS => ?_)
    rw [if_neg hN8] at hP
    obtain ⟨D1, hD1⟩ : ∃ z, z = comesM D N (nI kk) 0 := ⟨_, rfl⟩
    rw [← hD1] at hP
    have oD1 : okC D1 (N + 1) := by rw [hD1]; exact okC_comes (b := 0) hD hN7 hkk (by decide)
    have aD1 : agr (N + 1) (comesM d N (nI kk) 0) D1 := by rw [hD1]; exact agr_comes hA hN7
    obtain ⟨cm1, cm2, cm3⟩ := cm_at (d := D) (N := N) (x := nI kk)
    rw [← hD1] at cm1 cm2 cm3
    obtain ⟨dm1, dm2, dm3⟩ := cm_at (d := d) (N := N) (x := nI kk)
    refine lv_topE (nI N) (if_neg hN8) ?_
    refine lv_istore_n (lv' := [(2, .int (nI N)), (0, .ref (gA g 64)), (1, .int (nI kk))]) C.1.1 C.1.2.1 dX4_readResident_9 rfl hl (by decide) rfl (fun ls hl => ?_)
    refine lv_iload_n C.1.1 C.1.2.1 dX4_readResident_10 rfl (lv_at hl 0 rfl) ?_
    refine lv_iconst (v := (-1)) C.1.1 C.1.2.1 dX4_readResident_11 rfl ?_
    refine lv_icmp_ne (tgt := 17) C.1.1 C.1.2.1 dX4_readResident_12 (by decide) (fun c_2 => ?_) (fun c_2 => ?_)
    · skip
      refine lv_aload_n C.1.1 C.1.2.1 dX4_readResident_17 rfl (lv_at hl 1 rfl) ?_
      refine r_get C hP 64 4 hn65 rfl (by decide) rfl hi4 1 (by decide) (List.mem_of_getElem? (i := 1) rfl) rfl (val := .ref (gA g 14)) rfl dX4_readResident_18 ?_
      refine r_get C hP 14 2 (Nat.lt_of_lt_of_le (by decide) hn) rfl (by decide) rfl hi2 9 (by decide) (List.mem_of_getElem? (i := 2) rfl) rfl (val := .ref (gA g 17)) rfl dX4_readResident_21 ?_
      refine lv_iload_n C.1.1 C.1.2.1 dX4_readResident_24 rfl (lv_at hl 0 rfl) ?_
      refine r_aald C hP 17 (Nat.lt_of_lt_of_le (by decide) hn) rfl N rfl (by omega) dX4_readResident_25 ?_
      refine lv_astore_n (lv' := [(3, .ref (gA g (14 + 5 + N))), (2, .int (nI N)), (0, .ref (gA g 64)), (1, .int (nI kk))]) C.1.1 C.1.2.1 dX4_readResident_26 rfl hl (by decide) rfl (fun ls hl => ?_)
      refine lv_aload_n C.1.1 C.1.2.1 dX4_readResident_27 rfl (lv_at hl 2 rfl) ?_
      refine r_get C hP 64 4 hn65 rfl (by decide) rfl hi4 0 (by decide) (List.mem_of_getElem? (i := 3) rfl) rfl (val := .ref (gA g 41)) rfl dX4_readResident_28 ?_
      refine a_G hS (run_V C hP hS hl.1 41 3 (Nat.lt_of_lt_of_le (by decide) hn) rfl (by decide) rfl [] (kX3_readNext l g n (stW (rcW w B T q0 it nm) 14 D1) B T hT (rc_L hL) (rc_b hB) hB1 (tnE B T q0) (tnE_le hc) rc_5t) gX4_readResident_X3_readNext rfl hdX3_readNext rfl ⟨rfl, rfl⟩ ⟨Nat.le_of_ble_eq_true rfl, Nat.le_of_ble_eq_true rfl⟩ rfl [] rfl (Nat.le_of_ble_eq_true rfl) dX4_readResident_31 ⟨Nat.zero_le _, Nat.zero_le _⟩) (fun H locs hP hS => ?_)
      rw [show ctV (stW (rcW w B T q0 it nm) 14 D1) B T (skp B T (tnE B T q0)) = stW (rcW w B T (nx B T q0) it nm) 14 D1 from by rw [tn_nx hk1 (by decide), rc_ct]] at hP
      refine lv_aload_n C.1.1 C.1.2.1 dX4_readResident_34 rfl (lv_at hl 2 rfl) ?_
      refine va_ldcS C.1.1 C.1.2.1 C.1.2.2.2.1 (C.2.1.2.2.2.2.2.2.2.2.2 9 (by decide)) dX4_readResident_35 ?_
      refine lv_bipush (v := 15) C.1.1 C.1.2.1 dX4_readResident_37 rfl ?_
      refine lv_aload_n C.1.1 C.1.2.1 dX4_readResident_39 rfl (lv_at hl 0 rfl) ?_
      refine r_get C hP (14 + 5 + N) 0 (by omega) (kd_stR 14 (Or.inr (Or.inl rfl)) N (by omega)) (by decide) rfl hi0 1 (by decide) (List.mem_of_getElem? (i := 4) rfl) rfl (val := .int ((stW (rcW w B T (nx B T q0) it nm) 14 D1).1 (14 + 5 + N) 1)) rfl dX4_readResident_40 ?_
      refine lv_topE (nI 0) ((st_at (i := 25 + 8 * 1 + N) (sl_5 (r := N) (w := 1) (by omega) (by decide)) (by omega)).trans cm1) ?_
      refine a_I hS (run_V C hP hS hl.1 64 4 hn65 rfl (by decide) rfl [.ref (gK g 9), .int 15, .int (nI 0)] (kX4_readPerhaps l g n (stW (rcW w B T (nx B T q0) it nm) 14 D1) w B T hT hL hB hB1 (nx B T q0) (nx_le' hc) it nm D1 rfl hn65 9 (by decide) 15 15 rfl (by decide) 0 (by omega)) gX4_readResident_X4_readPerhaps rfl hdX4_readPerhaps rfl ⟨rfl, rfl⟩ ⟨Nat.le_of_ble_eq_true rfl, Nat.le_of_ble_eq_true rfl⟩ rfl [] rfl (Nat.le_of_ble_eq_true rfl) dX4_readResident_43 ⟨Nat.zero_le _, Nat.zero_le _⟩) (fun r u H locs hq hP hS => ?_)
      rcases hq with ⟨rfl, p3, m3, hp3, hm3, rfl, hph3⟩ | ⟨rfl, p3, n3, hp3, rfl, hph3⟩
      · skip
        refine lv_if_ne (tgt := 51) C.1.1 C.1.2.1 dX4_readResident_46 (by decide) (fun _ => ?_) (fun c_4 => absurd c_4 (by decide))
        refine lv_aload_n C.1.1 C.1.2.1 dX4_readResident_51 rfl (lv_at hl 0 rfl) ?_
        refine lv_aload_n C.1.1 C.1.2.1 dX4_readResident_52 rfl (lv_at hl 2 rfl) ?_
        refine r_get C hP 64 4 hn65 rfl (by decide) rfl hi4 3 (by decide) (List.mem_of_getElem? (i := 5) rfl) rfl (val := .int ((stW (rcW w B T p3 it (nI m3)) 14 D1).1 64 3)) rfl dX4_readResident_53 ?_
        refine lv_topE (nI m3) (congrFun rc_64 _) ?_
        refine r_put C hP hS (14 + 5 + N) 0 (by omega) (kd_stR 14 (Or.inr (Or.inl rfl)) N (by omega)) (by decide) rfl hi0 tyX0 tyX0_ok nmX0 1 (by decide) (List.mem_of_getElem? (i := 4) rfl) rfl rfl rfl rfl rfl (Nat.le_of_ble_eq_true rfl) dX4_readResident_56 (fun H locs hP hS => ?_)
        rw [show up (stW (rcW w B T p3 it (nI m3)) 14 D1) (14 + 5 + N) 1 (nI m3) = stW (rcW w B T p3 it (nI m3)) 14 (upd D1 (25 + 8 * 1 + N) (nI m3)) from st_up (i := 25 + 8 * 1 + N) (sl_5 (r := N) (w := 1) (by omega) (by decide)) (by omega)] at hP
        refine lv_aload_n C.1.1 C.1.2.1 dX4_readResident_59 rfl (lv_at hl 2 rfl) ?_
        refine va_ldcS C.1.1 C.1.2.1 C.1.2.2.2.1 (C.2.1.2.2.2.2.2.2.2.2.2 10 (by decide)) dX4_readResident_60 ?_
        refine lv_sipush (v := 4095) C.1.1 C.1.2.1 dX4_readResident_62 rfl ?_
        refine lv_aload_n C.1.1 C.1.2.1 dX4_readResident_65 rfl (lv_at hl 0 rfl) ?_
        refine r_get C hP (14 + 5 + N) 0 (by omega) (kd_stR 14 (Or.inr (Or.inl rfl)) N (by omega)) (by decide) rfl hi0 2 (by decide) (List.mem_of_getElem? (i := 6) rfl) rfl (val := .int ((stW (rcW w B T p3 it (nI m3)) 14 (upd D1 (25 + 8 * 1 + N) (nI m3))).1 (14 + 5 + N) 2)) rfl dX4_readResident_66 ?_
        refine lv_topE (nI 0) ((st_at (i := 25 + 8 * 2 + N) (sl_5 (r := N) (w := 2) (by omega) (by decide)) (by omega)).trans ((pk_un (by omega)).trans cm2)) ?_
        refine a_I hS (run_V C hP hS hl.1 64 4 hn65 rfl (by decide) rfl [.ref (gK g 10), .int 4095, .int (nI 0)] (kX4_readPerhaps l g n (stW (rcW w B T p3 it (nI m3)) 14 (upd D1 (25 + 8 * 1 + N) (nI m3))) w B T hT hL hB hB1 p3 hp3 it (nI m3) (upd D1 (25 + 8 * 1 + N) (nI m3)) rfl hn65 10 (by decide) 4095 4095 rfl (by decide) 0 (by omega)) gX4_readResident_X4_readPerhaps rfl hdX4_readPerhaps rfl ⟨rfl, rfl⟩ ⟨Nat.le_of_ble_eq_true rfl, Nat.le_of_ble_eq_true rfl⟩ rfl [] rfl (Nat.le_of_ble_eq_true rfl) dX4_readResident_69 ⟨Nat.zero_le _, Nat.zero_le _⟩) (fun r u H locs hq hP hS => ?_)
        rcases hq with ⟨rfl, p6, m6, hp6, hm6, rfl, hph6⟩ | ⟨rfl, p6, n6, hp6, rfl, hph6⟩
        · skip
          refine lv_if_ne (tgt := 77) C.1.1 C.1.2.1 dX4_readResident_72 (by decide) (fun _ => ?_) (fun c_7 => absurd c_7 (by decide))
          refine lv_aload_n C.1.1 C.1.2.1 dX4_readResident_77 rfl (lv_at hl 0 rfl) ?_
          refine lv_aload_n C.1.1 C.1.2.1 dX4_readResident_78 rfl (lv_at hl 2 rfl) ?_
          refine r_get C hP 64 4 hn65 rfl (by decide) rfl hi4 3 (by decide) (List.mem_of_getElem? (i := 5) rfl) rfl (val := .int ((stW (rcW w B T p6 it (nI m6)) 14 (upd D1 (25 + 8 * 1 + N) (nI m3))).1 64 3)) rfl dX4_readResident_79 ?_
          refine lv_topE (nI m6) (congrFun rc_64 _) ?_
          refine r_put C hP hS (14 + 5 + N) 0 (by omega) (kd_stR 14 (Or.inr (Or.inl rfl)) N (by omega)) (by decide) rfl hi0 tyX0 tyX0_ok nmX0 2 (by decide) (List.mem_of_getElem? (i := 6) rfl) rfl rfl rfl rfl rfl (Nat.le_of_ble_eq_true rfl) dX4_readResident_82 (fun H locs hP hS => ?_)
          rw [show up (stW (rcW w B T p6 it (nI m6)) 14 (upd D1 (25 + 8 * 1 + N) (nI m3))) (14 + 5 + N) 2 (nI m6) = stW (rcW w B T p6 it (nI m6)) 14 (upd (upd D1 (25 + 8 * 1 + N) (nI m3)) (25 + 8 * 2 + N) (nI m6)) from st_up (i := 25 + 8 * 2 + N) (sl_5 (r := N) (w := 2) (by omega) (by decide)) (by omega)] at hP
          refine lv_aload_n C.1.1 C.1.2.1 dX4_readResident_85 rfl (lv_at hl 2 rfl) ?_
          refine va_ldcS C.1.1 C.1.2.1 C.1.2.2.2.1 (C.2.1.2.2.2.2.2.2.2.2.2 11 (by decide)) dX4_readResident_86 ?_
          refine lv_bipush (v := 99) C.1.1 C.1.2.1 dX4_readResident_88 rfl ?_
          refine lv_aload_n C.1.1 C.1.2.1 dX4_readResident_90 rfl (lv_at hl 0 rfl) ?_
          refine r_get C hP (14 + 5 + N) 0 (by omega) (kd_stR 14 (Or.inr (Or.inl rfl)) N (by omega)) (by decide) rfl hi0 3 (by decide) (List.mem_of_getElem? (i := 7) rfl) rfl (val := .int ((stW (rcW w B T p6 it (nI m6)) 14 (upd (upd D1 (25 + 8 * 1 + N) (nI m3)) (25 + 8 * 2 + N) (nI m6))).1 (14 + 5 + N) 3)) rfl dX4_readResident_91 ?_
          refine lv_topE (nI 50) ((st_at (i := 25 + 8 * 3 + N) (sl_5 (r := N) (w := 3) (by omega) (by decide)) (by omega)).trans ((pk_un (by omega)).trans ((pk_un (by omega)).trans cm3))) ?_
          refine a_I hS (run_V C hP hS hl.1 64 4 hn65 rfl (by decide) rfl [.ref (gK g 11), .int 99, .int (nI 50)] (kX4_readPerhaps l g n (stW (rcW w B T p6 it (nI m6)) 14 (upd (upd D1 (25 + 8 * 1 + N) (nI m3)) (25 + 8 * 2 + N) (nI m6))) w B T hT hL hB hB1 p6 hp6 it (nI m6) (upd (upd D1 (25 + 8 * 1 + N) (nI m3)) (25 + 8 * 2 + N) (nI m6)) rfl hn65 11 (by decide) 99 99 rfl (by decide) 50 (by omega)) gX4_readResident_X4_readPerhaps rfl hdX4_readPerhaps rfl ⟨rfl, rfl⟩ ⟨Nat.le_of_ble_eq_true rfl, Nat.le_of_ble_eq_true rfl⟩ rfl [] rfl (Nat.le_of_ble_eq_true rfl) dX4_readResident_94 ⟨Nat.zero_le _, Nat.zero_le _⟩) (fun r u H locs hq hP hS => ?_)
          rcases hq with ⟨rfl, p9, m9, hp9, hm9, rfl, hph9⟩ | ⟨rfl, p9, n9, hp9, rfl, hph9⟩
          · skip
            refine lv_if_ne (tgt := 102) C.1.1 C.1.2.1 dX4_readResident_97 (by decide) (fun _ => ?_) (fun c_10 => absurd c_10 (by decide))
            refine lv_aload_n C.1.1 C.1.2.1 dX4_readResident_102 rfl (lv_at hl 0 rfl) ?_
            refine lv_aload_n C.1.1 C.1.2.1 dX4_readResident_103 rfl (lv_at hl 2 rfl) ?_
            refine r_get C hP 64 4 hn65 rfl (by decide) rfl hi4 3 (by decide) (List.mem_of_getElem? (i := 5) rfl) rfl (val := .int ((stW (rcW w B T p9 it (nI m9)) 14 (upd (upd D1 (25 + 8 * 1 + N) (nI m3)) (25 + 8 * 2 + N) (nI m6))).1 64 3)) rfl dX4_readResident_104 ?_
            refine lv_topE (nI m9) (congrFun rc_64 _) ?_
            refine r_put C hP hS (14 + 5 + N) 0 (by omega) (kd_stR 14 (Or.inr (Or.inl rfl)) N (by omega)) (by decide) rfl hi0 tyX0 tyX0_ok nmX0 3 (by decide) (List.mem_of_getElem? (i := 7) rfl) rfl rfl rfl rfl rfl (Nat.le_of_ble_eq_true rfl) dX4_readResident_107 (fun H locs hP hS => ?_)
            rw [show up (stW (rcW w B T p9 it (nI m9)) 14 (upd (upd D1 (25 + 8 * 1 + N) (nI m3)) (25 + 8 * 2 + N) (nI m6))) (14 + 5 + N) 3 (nI m9) = stW (rcW w B T p9 it (nI m9)) 14 (upd (upd (upd D1 (25 + 8 * 1 + N) (nI m3)) (25 + 8 * 2 + N) (nI m6)) (25 + 8 * 3 + N) (nI m9)) from st_up (i := 25 + 8 * 3 + N) (sl_5 (r := N) (w := 3) (by omega) (by decide)) (by omega)] at hP
            refine lv_aload_n C.1.1 C.1.2.1 dX4_readResident_110 rfl (lv_at hl 2 rfl) ?_
            refine r_get C hP 64 4 hn65 rfl (by decide) rfl hi4 0 (by decide) (List.mem_of_getElem? (i := 3) rfl) rfl (val := .ref (gA g 41)) rfl dX4_readResident_111 ?_
            refine va_ldcS C.1.1 C.1.2.1 C.1.2.2.2.1 (C.2.1.2.2.2.2.2.2.2.2.2 12 (by decide)) dX4_readResident_114 ?_
            refine a_B hS (run_V C hP hS hl.1 41 3 (Nat.lt_of_lt_of_le (by decide) hn) rfl (by decide) rfl [.ref (gK g 12)] (kX3_isWord l g n (stW (rcW w B T p9 it (nI m9)) 14 (upd (upd (upd D1 (25 + 8 * 1 + N) (nI m3)) (25 + 8 * 2 + N) (nI m6)) (25 + 8 * 3 + N) (nI m9))) B T hT (rc_L hL) (rc_b hB) hB1 12 (by decide) p9 hp9 rc_2t rc_3t rc_5t) gX4_readResident_X3_isWord rfl hdX3_isWord rfl ⟨rfl, rfl⟩ ⟨Nat.le_of_ble_eq_true rfl, Nat.le_of_ble_eq_true rfl⟩ rfl [] rfl (Nat.le_of_ble_eq_true rfl) dX4_readResident_116 ⟨Nat.zero_le _, Nat.zero_le _⟩) (fun b_12 H locs hP hS => ?_) (fun b_12 H locs hP hS => ?_)
            · skip
              refine lv_if_eq (tgt := 134) C.1.1 C.1.2.1 dX4_readResident_119 (by decide) (fun c_13 => absurd c_13 (by decide)) (fun _ => ?_)
              refine lv_aload_n C.1.1 C.1.2.1 dX4_readResident_122 rfl (lv_at hl 0 rfl) ?_
              refine lv_iconst (v := 1) C.1.1 C.1.2.1 dX4_readResident_123 rfl ?_
              refine r_put C hP hS (14 + 5 + N) 0 (by omega) (kd_stR 14 (Or.inr (Or.inl rfl)) N (by omega)) (by decide) rfl hi0 tyX0 tyX0_ok nmX0 5 (by decide) (List.mem_of_getElem? (i := 8) rfl) rfl rfl rfl rfl rfl (Nat.le_of_ble_eq_true rfl) dX4_readResident_124 (fun H locs hP hS => ?_)
              rw [show up (stW (rcW w B T p9 it (nI m9)) 14 (upd (upd (upd D1 (25 + 8 * 1 + N) (nI m3)) (25 + 8 * 2 + N) (nI m6)) (25 + 8 * 3 + N) (nI m9))) (14 + 5 + N) 5 1 = stW (rcW w B T p9 it (nI m9)) 14 (upd (upd (upd (upd D1 (25 + 8 * 1 + N) (nI m3)) (25 + 8 * 2 + N) (nI m6)) (25 + 8 * 3 + N) (nI m9)) (25 + 8 * 5 + N) 1) from st_up (i := 25 + 8 * 5 + N) (sl_5 (r := N) (w := 5) (by omega) (by decide)) (by omega)] at hP
              refine lv_aload_n C.1.1 C.1.2.1 dX4_readResident_127 rfl (lv_at hl 2 rfl) ?_
              refine r_get C hP 64 4 hn65 rfl (by decide) rfl hi4 0 (by decide) (List.mem_of_getElem? (i := 3) rfl) rfl (val := .ref (gA g 41)) rfl dX4_readResident_128 ?_
              refine a_G hS (run_V C hP hS hl.1 41 3 (Nat.lt_of_lt_of_le (by decide) hn) rfl (by decide) rfl [] (kX3_readNext l g n (stW (rcW w B T p9 it (nI m9)) 14 (upd (upd (upd (upd D1 (25 + 8 * 1 + N) (nI m3)) (25 + 8 * 2 + N) (nI m6)) (25 + 8 * 3 + N) (nI m9)) (25 + 8 * 5 + N) 1)) B T hT (rc_L hL) (rc_b hB) hB1 (tnE B T p9) (tnE_le hp9) rc_5t) gX4_readResident_X3_readNext rfl hdX3_readNext rfl ⟨rfl, rfl⟩ ⟨Nat.le_of_ble_eq_true rfl, Nat.le_of_ble_eq_true rfl⟩ rfl [] rfl (Nat.le_of_ble_eq_true rfl) dX4_readResident_131 ⟨Nat.zero_le _, Nat.zero_le _⟩) (fun H locs hP hS => ?_)
              rw [show ctV (stW (rcW w B T p9 it (nI m9)) 14 (upd (upd (upd (upd D1 (25 + 8 * 1 + N) (nI m3)) (25 + 8 * 2 + N) (nI m6)) (25 + 8 * 3 + N) (nI m9)) (25 + 8 * 5 + N) 1)) B T (skp B T (tnE B T p9)) = stW (rcW w B T (nx B T p9) it (nI m9)) 14 (upd (upd (upd (upd D1 (25 + 8 * 1 + N) (nI m3)) (25 + 8 * 2 + N) (nI m6)) (25 + 8 * 3 + N) (nI m9)) (25 + 8 * 5 + N) 1) from by rw [tn_nx b_12.1 (by decide), rc_ct]] at hP
              refine lv_iconst (v := 1) C.1.1 C.1.2.1 dX4_readResident_134 rfl ?_
              exact r_zret C rfl hP hS rfl (CR_1 ((re_ok ((agr_lo hA (by decide)).trans hD.2.1) hN7 (hph3 _ (25 + 8 * 1 + N) dm1) (hph6 _ (25 + 8 * 2 + N) ((pk_un (by omega)).trans dm2)) (hph9 _ (25 + 8 * 3 + N) ((pk_un (by omega)).trans ((pk_un (by omega)).trans dm3)))).trans (rt_yes b_12)) (nx_le' hp9) (okC_res (w := 5) (m := 1) (okC_res (w := 3) (m := m9) (okC_res (w := 2) (m := m6) (okC_res (w := 1) (m := m3) oD1 (by decide) hN7 (by show _ < 16; omega) rfl) (by decide) hN7 (by show _ < 4096; omega) rfl) (by decide) hN7 (by show _ < 100; omega) rfl) (by decide) hN7 (by decide) rfl) (agr_upd (agr_upd (agr_upd (agr_upd aD1 rfl) rfl) rfl) rfl)) dX4_readResident_135
            · skip
              refine lv_if_eq (tgt := 134) C.1.1 C.1.2.1 dX4_readResident_119 (by decide) (fun _ => ?_) (fun c_15 => absurd c_15 (by decide))
              refine lv_iconst (v := 1) C.1.1 C.1.2.1 dX4_readResident_134 rfl ?_
              exact r_zret C rfl hP hS rfl (CR_1 ((re_ok ((agr_lo hA (by decide)).trans hD.2.1) hN7 (hph3 _ (25 + 8 * 1 + N) dm1) (hph6 _ (25 + 8 * 2 + N) ((pk_un (by omega)).trans dm2)) (hph9 _ (25 + 8 * 3 + N) ((pk_un (by omega)).trans ((pk_un (by omega)).trans dm3)))).trans (rt_no b_12)) hp9 (okC_res (w := 3) (m := m9) (okC_res (w := 2) (m := m6) (okC_res (w := 1) (m := m3) oD1 (by decide) hN7 (by show _ < 16; omega) rfl) (by decide) hN7 (by show _ < 4096; omega) rfl) (by decide) hN7 (by show _ < 100; omega) rfl) (agr_upd (agr_upd (agr_upd aD1 rfl) rfl) rfl)) dX4_readResident_135
          · skip
            refine lv_if_ne (tgt := 102) C.1.1 C.1.2.1 dX4_readResident_97 (by decide) (fun c_16 => absurd c_16 (by decide)) (fun _ => ?_)
            refine lv_iconst (v := 0) C.1.1 C.1.2.1 dX4_readResident_100 rfl ?_
            exact r_zret C rfl hP hS rfl (CR_0 ((re_ok ((agr_lo hA (by decide)).trans hD.2.1) hN7 (hph3 _ (25 + 8 * 1 + N) dm1) (hph6 _ (25 + 8 * 2 + N) ((pk_un (by omega)).trans dm2)) (hph9 _ (25 + 8 * 3 + N))).trans (rt_skip (Nat.lt_of_le_of_lt hp9 (by omega)))) hp9) dX4_readResident_101
        · skip
          refine lv_if_ne (tgt := 77) C.1.1 C.1.2.1 dX4_readResident_72 (by decide) (fun c_17 => absurd c_17 (by decide)) (fun _ => ?_)
          refine lv_iconst (v := 0) C.1.1 C.1.2.1 dX4_readResident_75 rfl ?_
          exact r_zret C rfl hP hS rfl (CR_0 ((re_ok ((agr_lo hA (by decide)).trans hD.2.1) hN7 (hph3 _ (25 + 8 * 1 + N) dm1) (hph6 _ (25 + 8 * 2 + N)) (ph_skip (Nat.lt_of_le_of_lt hp6 (by omega)))).trans (rt_skip (Nat.lt_of_le_of_lt hp6 (by omega)))) hp6) dX4_readResident_76
      · skip
        refine lv_if_ne (tgt := 51) C.1.1 C.1.2.1 dX4_readResident_46 (by decide) (fun c_18 => absurd c_18 (by decide)) (fun _ => ?_)
        refine lv_iconst (v := 0) C.1.1 C.1.2.1 dX4_readResident_49 rfl ?_
        exact r_zret C rfl hP hS rfl (CR_0 ((re_ok ((agr_lo hA (by decide)).trans hD.2.1) hN7 (hph3 _ (25 + 8 * 1 + N)) (ph_skip (Nat.lt_of_le_of_lt hp3 (by omega))) (ph_skip (Nat.lt_of_le_of_lt hp3 (by omega)))).trans (rt_skip (Nat.lt_of_le_of_lt hp3 (by omega)))) hp3) dX4_readResident_50
    · skip
      exact absurd c_2 (nI_nm1 (by omega))

abbrev rmX4_readItem : Room := { frames := 7, cells := 0, slots := 0, locals := 153 }
set_option maxHeartbeats 4000000 in
set_option maxRecDepth 100000 in
theorem kX4_readItem (l : Launch) (g : GG) (n : Nat) (v : SV) (w : SV) (B : Nat → Int32) (T : Nat) (hT : T ≤ 120) (hL : w.1 41 1 = nI T) (hB : ∀ j, j < T → w.1 42 j = B j) (hB1 : ∀ j, T ≤ j → B j = -1) (q0 : Nat) (hc : q0 ≤ T) (it nm : Int32) (D : Nat → Int32) (hv : v = stW (rcW w B T q0 it nm) 14 D) (hn65 : 64 < n) (N : Nat) (d : Nat → Int32) (hD : okC D N) (hA : agr N d D) : Met l yX4_readItem wsX4_readItem rmX4_readItem (PW g n v [.ref (gA g 64)]) (QI g n (CR w B T it (itF B T (q0, -1, d)))) 0 0 (wA g n) := by
  refine Met.begin RX4 rfl (by decide) rfl (Nat.le_of_ble_eq_true rfl) ?_
  intro p e s m args below meth c ls ha C hP hS hl
  have hn : 64 ≤ n := C.2.1.1.2.1
  have hi0 : ∀ w ∈ u_ws RX0 TX0 6, w ∈ wsX4_readItem := by decide +kernel
  have hi2 : ∀ w ∈ u_ws RX2 TX2 11, w ∈ wsX4_readItem := by decide +kernel
  have hi3 : ∀ w ∈ u_ws RX3 TX3 6, w ∈ wsX4_readItem := by decide +kernel
  have hi4 : ∀ w ∈ u_ws RX4 TX4 4, w ∈ wsX4_readItem := by decide +kernel
  have hl : lv_has ls 2 [(0, .ref (gA g 64))] := hl
  subst hv
  refine lv_aload_n C.1.1 C.1.2.1 dX4_readItem_0 rfl (lv_at hl 0 rfl) ?_
  refine r_get C hP 64 4 hn65 rfl (by decide) rfl hi4 0 (by decide) (List.mem_of_getElem? (i := 1) rfl) rfl (val := .ref (gA g 41)) rfl dX4_readItem_1 ?_
  refine va_ldcS C.1.1 C.1.2.1 C.1.2.2.2.1 (C.2.1.2.2.2.2.2.2.2.2.2 0 (by decide)) dX4_readItem_4 ?_
  refine a_B hS (run_V C hP hS hl.1 41 3 (Nat.lt_of_lt_of_le (by decide) hn) rfl (by decide) rfl [.ref (gK g 0)] (kX3_isWord l g n (stW (rcW w B T q0 it nm) 14 D) B T hT (rc_L hL) (rc_b hB) hB1 0 (by decide) q0 hc rc_2t rc_3t rc_5t) gX4_readItem_X3_isWord rfl hdX3_isWord rfl ⟨rfl, rfl⟩ ⟨Nat.le_of_ble_eq_true rfl, Nat.le_of_ble_eq_true rfl⟩ rfl [] rfl (Nat.le_of_ble_eq_true rfl) dX4_readItem_6 ⟨Nat.zero_le _, Nat.zero_le _⟩) (fun b_1 H locs hP hS => ?_) (fun b_1 H locs hP hS => ?_)
  · skip
    refine lv_if_eq (tgt := 17) C.1.1 C.1.2.1 dX4_readItem_9 (by decide) (fun c_2 => absurd c_2 (by decide)) (fun _ => ?_)
    refine lv_aload_n C.1.1 C.1.2.1 dX4_readItem_12 rfl (lv_at hl 0 rfl) ?_
    refine a_I hS (run_V C hP hS hl.1 64 4 hn65 rfl (by decide) rfl [] (kX4_readCrier l g n (stW (rcW w B T q0 it nm) 14 D) w B T hT hL hB hB1 q0 hc it nm D rfl hn65 b_1.1 N d hD hA) gX4_readItem_X4_readCrier rfl hdX4_readCrier rfl ⟨rfl, rfl⟩ ⟨Nat.le_of_ble_eq_true rfl, Nat.le_of_ble_eq_true rfl⟩ rfl [] rfl (Nat.le_of_ble_eq_true rfl) dX4_readItem_13 ⟨Nat.zero_le _, Nat.zero_le _⟩) (fun r u H locs hq hP hS => ?_)
    obtain ⟨hqT, ⟨rfl, hf, hrest⟩ | ⟨rfl, hf, hrest⟩⟩ := hq
    · skip
      exact r_zret C rfl hP hS rfl (by rw [it_cr b_1]; exact ⟨hqT, Or.inl ⟨rfl, hf, hrest⟩⟩) dX4_readItem_16
    · skip
      exact r_zret C rfl hP hS rfl (by rw [it_cr b_1]; exact ⟨hqT, Or.inr ⟨rfl, hf, hrest⟩⟩) dX4_readItem_16
  · skip
    refine lv_if_eq (tgt := 17) C.1.1 C.1.2.1 dX4_readItem_9 (by decide) (fun _ => ?_) (fun c_4 => absurd c_4 (by decide))
    refine lv_aload_n C.1.1 C.1.2.1 dX4_readItem_17 rfl (lv_at hl 0 rfl) ?_
    refine r_get C hP 64 4 hn65 rfl (by decide) rfl hi4 0 (by decide) (List.mem_of_getElem? (i := 1) rfl) rfl (val := .ref (gA g 41)) rfl dX4_readItem_18 ?_
    refine va_ldcS C.1.1 C.1.2.1 C.1.2.2.2.1 (C.2.1.2.2.2.2.2.2.2.2.2 1 (by decide)) dX4_readItem_21 ?_
    refine a_B hS (run_V C hP hS hl.1 41 3 (Nat.lt_of_lt_of_le (by decide) hn) rfl (by decide) rfl [.ref (gK g 1)] (kX3_isWord l g n (stW (rcW w B T q0 it nm) 14 D) B T hT (rc_L hL) (rc_b hB) hB1 1 (by decide) q0 hc rc_2t rc_3t rc_5t) gX4_readItem_X3_isWord rfl hdX3_isWord rfl ⟨rfl, rfl⟩ ⟨Nat.le_of_ble_eq_true rfl, Nat.le_of_ble_eq_true rfl⟩ rfl [] rfl (Nat.le_of_ble_eq_true rfl) dX4_readItem_23 ⟨Nat.zero_le _, Nat.zero_le _⟩) (fun b_5 H locs hP hS => ?_) (fun b_5 H locs hP hS => ?_)
    · skip
      refine lv_if_eq (tgt := 34) C.1.1 C.1.2.1 dX4_readItem_26 (by decide) (fun c_6 => absurd c_6 (by decide)) (fun _ => ?_)
      refine lv_aload_n C.1.1 C.1.2.1 dX4_readItem_29 rfl (lv_at hl 0 rfl) ?_
      refine a_I hS (run_V C hP hS hl.1 64 4 hn65 rfl (by decide) rfl [] (kX4_readCry l g n (stW (rcW w B T q0 it nm) 14 D) w B T hT hL hB hB1 q0 hc it nm D rfl hn65 b_5.1 N d hD hA) gX4_readItem_X4_readCry rfl hdX4_readCry rfl ⟨rfl, rfl⟩ ⟨Nat.le_of_ble_eq_true rfl, Nat.le_of_ble_eq_true rfl⟩ rfl [] rfl (Nat.le_of_ble_eq_true rfl) dX4_readItem_30 ⟨Nat.zero_le _, Nat.zero_le _⟩) (fun r u H locs hq hP hS => ?_)
      obtain ⟨hqT, ⟨rfl, hf, hrest⟩ | ⟨rfl, hf, hrest⟩⟩ := hq
      · skip
        exact r_zret C rfl hP hS rfl (by rw [it_cy b_1 b_5]; exact ⟨hqT, Or.inl ⟨rfl, hf, hrest⟩⟩) dX4_readItem_33
      · skip
        exact r_zret C rfl hP hS rfl (by rw [it_cy b_1 b_5]; exact ⟨hqT, Or.inr ⟨rfl, hf, hrest⟩⟩) dX4_readItem_33
    · skip
      refine lv_if_eq (tgt := 34) C.1.1 C.1.2.1 dX4_readItem_26 (by decide) (fun _ => ?_) (fun c_8 => absurd c_8 (by decide))
      refine lv_iconst (v := 0) C.1.1 C.1.2.1 dX4_readItem_34 rfl ?_
      refine lv_istore_n (lv' := [(1, .int 0), (0, .ref (gA g 64))]) C.1.1 C.1.2.1 dX4_readItem_35 rfl hl (by decide) rfl (fun ls hl => ?_)
      refine lv_iload_n C.1.1 C.1.2.1 dX4_readItem_36 rfl (lv_at hl 0 rfl) ?_
      refine lv_bipush (v := 7) C.1.1 C.1.2.1 dX4_readItem_37 rfl ?_
      refine lv_icmp_ge (tgt := 68) C.1.1 C.1.2.1 dX4_readItem_39 (by decide) (fun c_9 => absurd c_9 (by decide)) (fun _ => ?_)
      refine lv_aload_n C.1.1 C.1.2.1 dX4_readItem_42 rfl (lv_at hl 1 rfl) ?_
      refine r_get C hP 64 4 hn65 rfl (by decide) rfl hi4 0 (by decide) (List.mem_of_getElem? (i := 1) rfl) rfl (val := .ref (gA g 41)) rfl dX4_readItem_43 ?_
      refine lv_iload_n C.1.1 C.1.2.1 dX4_readItem_46 rfl (lv_at hl 0 rfl) ?_
      refine a_S hS (run_S C hP hS hl.1 [.int 0] (kX4_wordOf l g n (stW (rcW w B T q0 it nm) 14 D) 0 (by decide)) gX4_readItem_X4_wordOf hdX4_wordOf rfl ⟨rfl, rfl⟩ ⟨Nat.le_of_ble_eq_true rfl, Nat.le_of_ble_eq_true rfl⟩ rfl [.ref (gA g 41)] rfl (Nat.le_of_ble_eq_true rfl) dX4_readItem_47 ⟨Nat.zero_le _, Nat.zero_le _⟩) (fun H locs hP hS => ?_)
      refine a_B hS (run_V C hP hS hl.1 41 3 (Nat.lt_of_lt_of_le (by decide) hn) rfl (by decide) rfl [.ref (gK g 8)] (kX3_isWord l g n (stW (rcW w B T q0 it nm) 14 D) B T hT (rc_L hL) (rc_b hB) hB1 8 (by decide) q0 hc rc_2t rc_3t rc_5t) gX4_readItem_X3_isWord rfl hdX3_isWord rfl ⟨rfl, rfl⟩ ⟨Nat.le_of_ble_eq_true rfl, Nat.le_of_ble_eq_true rfl⟩ rfl [] rfl (Nat.le_of_ble_eq_true rfl) dX4_readItem_50 ⟨Nat.zero_le _, Nat.zero_le _⟩) (fun b_10 H locs hP hS => ?_) (fun b_10 H locs hP hS => ?_)
      · skip
        refine lv_if_eq (tgt := 62) C.1.1 C.1.2.1 dX4_readItem_53 (by decide) (fun c_11 => absurd c_11 (by decide)) (fun _ => ?_)
        refine lv_aload_n C.1.1 C.1.2.1 dX4_readItem_56 rfl (lv_at hl 1 rfl) ?_
        refine lv_iload_n C.1.1 C.1.2.1 dX4_readItem_57 rfl (lv_at hl 0 rfl) ?_
        refine a_I hS (run_V C hP hS hl.1 64 4 hn65 rfl (by decide) rfl [.int 0] (kX4_readResident l g n (stW (rcW w B T q0 it nm) 14 D) w B T hT hL hB hB1 q0 hc it nm D rfl hn65 0 (by decide) b_10.1 N d hD hA) gX4_readItem_X4_readResident rfl hdX4_readResident rfl ⟨rfl, rfl⟩ ⟨Nat.le_of_ble_eq_true rfl, Nat.le_of_ble_eq_true rfl⟩ rfl [] rfl (Nat.le_of_ble_eq_true rfl) dX4_readItem_58 ⟨Nat.zero_le _, Nat.zero_le _⟩) (fun r u H locs hq hP hS => ?_)
        obtain ⟨hqT, ⟨rfl, hf, hrest⟩ | ⟨rfl, hf, hrest⟩⟩ := hq
        · skip
          exact r_zret C rfl hP hS rfl (by rw [it_re (k := 0) (by decide) b_10]; exact ⟨hqT, Or.inl ⟨rfl, hf, hrest⟩⟩) dX4_readItem_61
        · skip
          exact r_zret C rfl hP hS rfl (by rw [it_re (k := 0) (by decide) b_10]; exact ⟨hqT, Or.inr ⟨rfl, hf, hrest⟩⟩) dX4_readItem_61
      · skip
        refine lv_if_eq (tgt := 62) C.1.1 C.1.2.1 dX4_readItem_53 (by decide) (fun _ => ?_) (fun c_13 => absurd c_13 (by decide))
        refine lv_iinc (v := 1) (lv' := [(1, .int 1), (0, .ref (gA g 64))]) C.1.1 C.1.2.1 dX4_readItem_62 hl (k := 0) rfl (by decide) (by decide) rfl (fun ls hl => ?_)
        refine lv_goto (tgt := 36) C.1.1 C.1.2.1 dX4_readItem_65 (by decide) ?_
        refine lv_iload_n C.1.1 C.1.2.1 dX4_readItem_36 rfl (lv_at hl 0 rfl) ?_
        refine lv_bipush (v := 7) C.1.1 C.1.2.1 dX4_readItem_37 rfl ?_
        refine lv_icmp_ge (tgt := 68) C.1.1 C.1.2.1 dX4_readItem_39 (by decide) (fun c_14 => absurd c_14 (by decide)) (fun _ => ?_)
        refine lv_aload_n C.1.1 C.1.2.1 dX4_readItem_42 rfl (lv_at hl 1 rfl) ?_
        refine r_get C hP 64 4 hn65 rfl (by decide) rfl hi4 0 (by decide) (List.mem_of_getElem? (i := 1) rfl) rfl (val := .ref (gA g 41)) rfl dX4_readItem_43 ?_
        refine lv_iload_n C.1.1 C.1.2.1 dX4_readItem_46 rfl (lv_at hl 0 rfl) ?_
        refine a_S hS (run_S C hP hS hl.1 [.int 1] (kX4_wordOf l g n (stW (rcW w B T q0 it nm) 14 D) 1 (by decide)) gX4_readItem_X4_wordOf hdX4_wordOf rfl ⟨rfl, rfl⟩ ⟨Nat.le_of_ble_eq_true rfl, Nat.le_of_ble_eq_true rfl⟩ rfl [.ref (gA g 41)] rfl (Nat.le_of_ble_eq_true rfl) dX4_readItem_47 ⟨Nat.zero_le _, Nat.zero_le _⟩) (fun H locs hP hS => ?_)
        refine a_B hS (run_V C hP hS hl.1 41 3 (Nat.lt_of_lt_of_le (by decide) hn) rfl (by decide) rfl [.ref (gK g 2)] (kX3_isWord l g n (stW (rcW w B T q0 it nm) 14 D) B T hT (rc_L hL) (rc_b hB) hB1 2 (by decide) q0 hc rc_2t rc_3t rc_5t) gX4_readItem_X3_isWord rfl hdX3_isWord rfl ⟨rfl, rfl⟩ ⟨Nat.le_of_ble_eq_true rfl, Nat.le_of_ble_eq_true rfl⟩ rfl [] rfl (Nat.le_of_ble_eq_true rfl) dX4_readItem_50 ⟨Nat.zero_le _, Nat.zero_le _⟩) (fun b_15 H locs hP hS => ?_) (fun b_15 H locs hP hS => ?_)
        · skip
          refine lv_if_eq (tgt := 62) C.1.1 C.1.2.1 dX4_readItem_53 (by decide) (fun c_16 => absurd c_16 (by decide)) (fun _ => ?_)
          refine lv_aload_n C.1.1 C.1.2.1 dX4_readItem_56 rfl (lv_at hl 1 rfl) ?_
          refine lv_iload_n C.1.1 C.1.2.1 dX4_readItem_57 rfl (lv_at hl 0 rfl) ?_
          refine a_I hS (run_V C hP hS hl.1 64 4 hn65 rfl (by decide) rfl [.int 1] (kX4_readResident l g n (stW (rcW w B T q0 it nm) 14 D) w B T hT hL hB hB1 q0 hc it nm D rfl hn65 1 (by decide) b_15.1 N d hD hA) gX4_readItem_X4_readResident rfl hdX4_readResident rfl ⟨rfl, rfl⟩ ⟨Nat.le_of_ble_eq_true rfl, Nat.le_of_ble_eq_true rfl⟩ rfl [] rfl (Nat.le_of_ble_eq_true rfl) dX4_readItem_58 ⟨Nat.zero_le _, Nat.zero_le _⟩) (fun r u H locs hq hP hS => ?_)
          obtain ⟨hqT, ⟨rfl, hf, hrest⟩ | ⟨rfl, hf, hrest⟩⟩ := hq
          · skip
            exact r_zret C rfl hP hS rfl (by rw [it_re (k := 1) (by decide) b_15]; exact ⟨hqT, Or.inl ⟨rfl, hf, hrest⟩⟩) dX4_readItem_61
          · skip
            exact r_zret C rfl hP hS rfl (by rw [it_re (k := 1) (by decide) b_15]; exact ⟨hqT, Or.inr ⟨rfl, hf, hrest⟩⟩) dX4_readItem_61
        · skip
          refine lv_if_eq (tgt := 62) C.1.1 C.1.2.1 dX4_readItem_53 (by decide) (fun _ => ?_) (fun c_18 => absurd c_18 (by decide))
          refine lv_iinc (v := 2) (lv' := [(1, .int 2), (0, .ref (gA g 64))]) C.1.1 C.1.2.1 dX4_readItem_62 hl (k := 0) rfl (by decide) (by decide) rfl (fun ls hl => ?_)
          refine lv_goto (tgt := 36) C.1.1 C.1.2.1 dX4_readItem_65 (by decide) ?_
          refine lv_iload_n C.1.1 C.1.2.1 dX4_readItem_36 rfl (lv_at hl 0 rfl) ?_
          refine lv_bipush (v := 7) C.1.1 C.1.2.1 dX4_readItem_37 rfl ?_
          refine lv_icmp_ge (tgt := 68) C.1.1 C.1.2.1 dX4_readItem_39 (by decide) (fun c_19 => absurd c_19 (by decide)) (fun _ => ?_)
          refine lv_aload_n C.1.1 C.1.2.1 dX4_readItem_42 rfl (lv_at hl 1 rfl) ?_
          refine r_get C hP 64 4 hn65 rfl (by decide) rfl hi4 0 (by decide) (List.mem_of_getElem? (i := 1) rfl) rfl (val := .ref (gA g 41)) rfl dX4_readItem_43 ?_
          refine lv_iload_n C.1.1 C.1.2.1 dX4_readItem_46 rfl (lv_at hl 0 rfl) ?_
          refine a_S hS (run_S C hP hS hl.1 [.int 2] (kX4_wordOf l g n (stW (rcW w B T q0 it nm) 14 D) 2 (by decide)) gX4_readItem_X4_wordOf hdX4_wordOf rfl ⟨rfl, rfl⟩ ⟨Nat.le_of_ble_eq_true rfl, Nat.le_of_ble_eq_true rfl⟩ rfl [.ref (gA g 41)] rfl (Nat.le_of_ble_eq_true rfl) dX4_readItem_47 ⟨Nat.zero_le _, Nat.zero_le _⟩) (fun H locs hP hS => ?_)
          refine a_B hS (run_V C hP hS hl.1 41 3 (Nat.lt_of_lt_of_le (by decide) hn) rfl (by decide) rfl [.ref (gK g 3)] (kX3_isWord l g n (stW (rcW w B T q0 it nm) 14 D) B T hT (rc_L hL) (rc_b hB) hB1 3 (by decide) q0 hc rc_2t rc_3t rc_5t) gX4_readItem_X3_isWord rfl hdX3_isWord rfl ⟨rfl, rfl⟩ ⟨Nat.le_of_ble_eq_true rfl, Nat.le_of_ble_eq_true rfl⟩ rfl [] rfl (Nat.le_of_ble_eq_true rfl) dX4_readItem_50 ⟨Nat.zero_le _, Nat.zero_le _⟩) (fun b_20 H locs hP hS => ?_) (fun b_20 H locs hP hS => ?_)
          · skip
            refine lv_if_eq (tgt := 62) C.1.1 C.1.2.1 dX4_readItem_53 (by decide) (fun c_21 => absurd c_21 (by decide)) (fun _ => ?_)
            refine lv_aload_n C.1.1 C.1.2.1 dX4_readItem_56 rfl (lv_at hl 1 rfl) ?_
            refine lv_iload_n C.1.1 C.1.2.1 dX4_readItem_57 rfl (lv_at hl 0 rfl) ?_
            refine a_I hS (run_V C hP hS hl.1 64 4 hn65 rfl (by decide) rfl [.int 2] (kX4_readResident l g n (stW (rcW w B T q0 it nm) 14 D) w B T hT hL hB hB1 q0 hc it nm D rfl hn65 2 (by decide) b_20.1 N d hD hA) gX4_readItem_X4_readResident rfl hdX4_readResident rfl ⟨rfl, rfl⟩ ⟨Nat.le_of_ble_eq_true rfl, Nat.le_of_ble_eq_true rfl⟩ rfl [] rfl (Nat.le_of_ble_eq_true rfl) dX4_readItem_58 ⟨Nat.zero_le _, Nat.zero_le _⟩) (fun r u H locs hq hP hS => ?_)
            obtain ⟨hqT, ⟨rfl, hf, hrest⟩ | ⟨rfl, hf, hrest⟩⟩ := hq
            · skip
              exact r_zret C rfl hP hS rfl (by rw [it_re (k := 2) (by decide) b_20]; exact ⟨hqT, Or.inl ⟨rfl, hf, hrest⟩⟩) dX4_readItem_61
            · skip
              exact r_zret C rfl hP hS rfl (by rw [it_re (k := 2) (by decide) b_20]; exact ⟨hqT, Or.inr ⟨rfl, hf, hrest⟩⟩) dX4_readItem_61
          · skip
            refine lv_if_eq (tgt := 62) C.1.1 C.1.2.1 dX4_readItem_53 (by decide) (fun _ => ?_) (fun c_23 => absurd c_23 (by decide))
            refine lv_iinc (v := 3) (lv' := [(1, .int 3), (0, .ref (gA g 64))]) C.1.1 C.1.2.1 dX4_readItem_62 hl (k := 0) rfl (by decide) (by decide) rfl (fun ls hl => ?_)
            refine lv_goto (tgt := 36) C.1.1 C.1.2.1 dX4_readItem_65 (by decide) ?_
            refine lv_iload_n C.1.1 C.1.2.1 dX4_readItem_36 rfl (lv_at hl 0 rfl) ?_
            refine lv_bipush (v := 7) C.1.1 C.1.2.1 dX4_readItem_37 rfl ?_
            refine lv_icmp_ge (tgt := 68) C.1.1 C.1.2.1 dX4_readItem_39 (by decide) (fun c_24 => absurd c_24 (by decide)) (fun _ => ?_)
            refine lv_aload_n C.1.1 C.1.2.1 dX4_readItem_42 rfl (lv_at hl 1 rfl) ?_
            refine r_get C hP 64 4 hn65 rfl (by decide) rfl hi4 0 (by decide) (List.mem_of_getElem? (i := 1) rfl) rfl (val := .ref (gA g 41)) rfl dX4_readItem_43 ?_
            refine lv_iload_n C.1.1 C.1.2.1 dX4_readItem_46 rfl (lv_at hl 0 rfl) ?_
            refine a_S hS (run_S C hP hS hl.1 [.int 3] (kX4_wordOf l g n (stW (rcW w B T q0 it nm) 14 D) 3 (by decide)) gX4_readItem_X4_wordOf hdX4_wordOf rfl ⟨rfl, rfl⟩ ⟨Nat.le_of_ble_eq_true rfl, Nat.le_of_ble_eq_true rfl⟩ rfl [.ref (gA g 41)] rfl (Nat.le_of_ble_eq_true rfl) dX4_readItem_47 ⟨Nat.zero_le _, Nat.zero_le _⟩) (fun H locs hP hS => ?_)
            refine a_B hS (run_V C hP hS hl.1 41 3 (Nat.lt_of_lt_of_le (by decide) hn) rfl (by decide) rfl [.ref (gK g 4)] (kX3_isWord l g n (stW (rcW w B T q0 it nm) 14 D) B T hT (rc_L hL) (rc_b hB) hB1 4 (by decide) q0 hc rc_2t rc_3t rc_5t) gX4_readItem_X3_isWord rfl hdX3_isWord rfl ⟨rfl, rfl⟩ ⟨Nat.le_of_ble_eq_true rfl, Nat.le_of_ble_eq_true rfl⟩ rfl [] rfl (Nat.le_of_ble_eq_true rfl) dX4_readItem_50 ⟨Nat.zero_le _, Nat.zero_le _⟩) (fun b_25 H locs hP hS => ?_) (fun b_25 H locs hP hS => ?_)
            · skip
              refine lv_if_eq (tgt := 62) C.1.1 C.1.2.1 dX4_readItem_53 (by decide) (fun c_26 => absurd c_26 (by decide)) (fun _ => ?_)
              refine lv_aload_n C.1.1 C.1.2.1 dX4_readItem_56 rfl (lv_at hl 1 rfl) ?_
              refine lv_iload_n C.1.1 C.1.2.1 dX4_readItem_57 rfl (lv_at hl 0 rfl) ?_
              refine a_I hS (run_V C hP hS hl.1 64 4 hn65 rfl (by decide) rfl [.int 3] (kX4_readResident l g n (stW (rcW w B T q0 it nm) 14 D) w B T hT hL hB hB1 q0 hc it nm D rfl hn65 3 (by decide) b_25.1 N d hD hA) gX4_readItem_X4_readResident rfl hdX4_readResident rfl ⟨rfl, rfl⟩ ⟨Nat.le_of_ble_eq_true rfl, Nat.le_of_ble_eq_true rfl⟩ rfl [] rfl (Nat.le_of_ble_eq_true rfl) dX4_readItem_58 ⟨Nat.zero_le _, Nat.zero_le _⟩) (fun r u H locs hq hP hS => ?_)
              obtain ⟨hqT, ⟨rfl, hf, hrest⟩ | ⟨rfl, hf, hrest⟩⟩ := hq
              · skip
                exact r_zret C rfl hP hS rfl (by rw [it_re (k := 3) (by decide) b_25]; exact ⟨hqT, Or.inl ⟨rfl, hf, hrest⟩⟩) dX4_readItem_61
              · skip
                exact r_zret C rfl hP hS rfl (by rw [it_re (k := 3) (by decide) b_25]; exact ⟨hqT, Or.inr ⟨rfl, hf, hrest⟩⟩) dX4_readItem_61
            · skip
              refine lv_if_eq (tgt := 62) C.1.1 C.1.2.1 dX4_readItem_53 (by decide) (fun _ => ?_) (fun c_28 => absurd c_28 (by decide))
              refine lv_iinc (v := 4) (lv' := [(1, .int 4), (0, .ref (gA g 64))]) C.1.1 C.1.2.1 dX4_readItem_62 hl (k := 0) rfl (by decide) (by decide) rfl (fun ls hl => ?_)
              refine lv_goto (tgt := 36) C.1.1 C.1.2.1 dX4_readItem_65 (by decide) ?_
              refine lv_iload_n C.1.1 C.1.2.1 dX4_readItem_36 rfl (lv_at hl 0 rfl) ?_
              refine lv_bipush (v := 7) C.1.1 C.1.2.1 dX4_readItem_37 rfl ?_
              refine lv_icmp_ge (tgt := 68) C.1.1 C.1.2.1 dX4_readItem_39 (by decide) (fun c_29 => absurd c_29 (by decide)) (fun _ => ?_)
              refine lv_aload_n C.1.1 C.1.2.1 dX4_readItem_42 rfl (lv_at hl 1 rfl) ?_
              refine r_get C hP 64 4 hn65 rfl (by decide) rfl hi4 0 (by decide) (List.mem_of_getElem? (i := 1) rfl) rfl (val := .ref (gA g 41)) rfl dX4_readItem_43 ?_
              refine lv_iload_n C.1.1 C.1.2.1 dX4_readItem_46 rfl (lv_at hl 0 rfl) ?_
              refine a_S hS (run_S C hP hS hl.1 [.int 4] (kX4_wordOf l g n (stW (rcW w B T q0 it nm) 14 D) 4 (by decide)) gX4_readItem_X4_wordOf hdX4_wordOf rfl ⟨rfl, rfl⟩ ⟨Nat.le_of_ble_eq_true rfl, Nat.le_of_ble_eq_true rfl⟩ rfl [.ref (gA g 41)] rfl (Nat.le_of_ble_eq_true rfl) dX4_readItem_47 ⟨Nat.zero_le _, Nat.zero_le _⟩) (fun H locs hP hS => ?_)
              refine a_B hS (run_V C hP hS hl.1 41 3 (Nat.lt_of_lt_of_le (by decide) hn) rfl (by decide) rfl [.ref (gK g 5)] (kX3_isWord l g n (stW (rcW w B T q0 it nm) 14 D) B T hT (rc_L hL) (rc_b hB) hB1 5 (by decide) q0 hc rc_2t rc_3t rc_5t) gX4_readItem_X3_isWord rfl hdX3_isWord rfl ⟨rfl, rfl⟩ ⟨Nat.le_of_ble_eq_true rfl, Nat.le_of_ble_eq_true rfl⟩ rfl [] rfl (Nat.le_of_ble_eq_true rfl) dX4_readItem_50 ⟨Nat.zero_le _, Nat.zero_le _⟩) (fun b_30 H locs hP hS => ?_) (fun b_30 H locs hP hS => ?_)
              · skip
                refine lv_if_eq (tgt := 62) C.1.1 C.1.2.1 dX4_readItem_53 (by decide) (fun c_31 => absurd c_31 (by decide)) (fun _ => ?_)
                refine lv_aload_n C.1.1 C.1.2.1 dX4_readItem_56 rfl (lv_at hl 1 rfl) ?_
                refine lv_iload_n C.1.1 C.1.2.1 dX4_readItem_57 rfl (lv_at hl 0 rfl) ?_
                refine a_I hS (run_V C hP hS hl.1 64 4 hn65 rfl (by decide) rfl [.int 4] (kX4_readResident l g n (stW (rcW w B T q0 it nm) 14 D) w B T hT hL hB hB1 q0 hc it nm D rfl hn65 4 (by decide) b_30.1 N d hD hA) gX4_readItem_X4_readResident rfl hdX4_readResident rfl ⟨rfl, rfl⟩ ⟨Nat.le_of_ble_eq_true rfl, Nat.le_of_ble_eq_true rfl⟩ rfl [] rfl (Nat.le_of_ble_eq_true rfl) dX4_readItem_58 ⟨Nat.zero_le _, Nat.zero_le _⟩) (fun r u H locs hq hP hS => ?_)
                obtain ⟨hqT, ⟨rfl, hf, hrest⟩ | ⟨rfl, hf, hrest⟩⟩ := hq
                · skip
                  exact r_zret C rfl hP hS rfl (by rw [it_re (k := 4) (by decide) b_30]; exact ⟨hqT, Or.inl ⟨rfl, hf, hrest⟩⟩) dX4_readItem_61
                · skip
                  exact r_zret C rfl hP hS rfl (by rw [it_re (k := 4) (by decide) b_30]; exact ⟨hqT, Or.inr ⟨rfl, hf, hrest⟩⟩) dX4_readItem_61
              · skip
                refine lv_if_eq (tgt := 62) C.1.1 C.1.2.1 dX4_readItem_53 (by decide) (fun _ => ?_) (fun c_33 => absurd c_33 (by decide))
                refine lv_iinc (v := 5) (lv' := [(1, .int 5), (0, .ref (gA g 64))]) C.1.1 C.1.2.1 dX4_readItem_62 hl (k := 0) rfl (by decide) (by decide) rfl (fun ls hl => ?_)
                refine lv_goto (tgt := 36) C.1.1 C.1.2.1 dX4_readItem_65 (by decide) ?_
                refine lv_iload_n C.1.1 C.1.2.1 dX4_readItem_36 rfl (lv_at hl 0 rfl) ?_
                refine lv_bipush (v := 7) C.1.1 C.1.2.1 dX4_readItem_37 rfl ?_
                refine lv_icmp_ge (tgt := 68) C.1.1 C.1.2.1 dX4_readItem_39 (by decide) (fun c_34 => absurd c_34 (by decide)) (fun _ => ?_)
                refine lv_aload_n C.1.1 C.1.2.1 dX4_readItem_42 rfl (lv_at hl 1 rfl) ?_
                refine r_get C hP 64 4 hn65 rfl (by decide) rfl hi4 0 (by decide) (List.mem_of_getElem? (i := 1) rfl) rfl (val := .ref (gA g 41)) rfl dX4_readItem_43 ?_
                refine lv_iload_n C.1.1 C.1.2.1 dX4_readItem_46 rfl (lv_at hl 0 rfl) ?_
                refine a_S hS (run_S C hP hS hl.1 [.int 5] (kX4_wordOf l g n (stW (rcW w B T q0 it nm) 14 D) 5 (by decide)) gX4_readItem_X4_wordOf hdX4_wordOf rfl ⟨rfl, rfl⟩ ⟨Nat.le_of_ble_eq_true rfl, Nat.le_of_ble_eq_true rfl⟩ rfl [.ref (gA g 41)] rfl (Nat.le_of_ble_eq_true rfl) dX4_readItem_47 ⟨Nat.zero_le _, Nat.zero_le _⟩) (fun H locs hP hS => ?_)
                refine a_B hS (run_V C hP hS hl.1 41 3 (Nat.lt_of_lt_of_le (by decide) hn) rfl (by decide) rfl [.ref (gK g 6)] (kX3_isWord l g n (stW (rcW w B T q0 it nm) 14 D) B T hT (rc_L hL) (rc_b hB) hB1 6 (by decide) q0 hc rc_2t rc_3t rc_5t) gX4_readItem_X3_isWord rfl hdX3_isWord rfl ⟨rfl, rfl⟩ ⟨Nat.le_of_ble_eq_true rfl, Nat.le_of_ble_eq_true rfl⟩ rfl [] rfl (Nat.le_of_ble_eq_true rfl) dX4_readItem_50 ⟨Nat.zero_le _, Nat.zero_le _⟩) (fun b_35 H locs hP hS => ?_) (fun b_35 H locs hP hS => ?_)
                · skip
                  refine lv_if_eq (tgt := 62) C.1.1 C.1.2.1 dX4_readItem_53 (by decide) (fun c_36 => absurd c_36 (by decide)) (fun _ => ?_)
                  refine lv_aload_n C.1.1 C.1.2.1 dX4_readItem_56 rfl (lv_at hl 1 rfl) ?_
                  refine lv_iload_n C.1.1 C.1.2.1 dX4_readItem_57 rfl (lv_at hl 0 rfl) ?_
                  refine a_I hS (run_V C hP hS hl.1 64 4 hn65 rfl (by decide) rfl [.int 5] (kX4_readResident l g n (stW (rcW w B T q0 it nm) 14 D) w B T hT hL hB hB1 q0 hc it nm D rfl hn65 5 (by decide) b_35.1 N d hD hA) gX4_readItem_X4_readResident rfl hdX4_readResident rfl ⟨rfl, rfl⟩ ⟨Nat.le_of_ble_eq_true rfl, Nat.le_of_ble_eq_true rfl⟩ rfl [] rfl (Nat.le_of_ble_eq_true rfl) dX4_readItem_58 ⟨Nat.zero_le _, Nat.zero_le _⟩) (fun r u H locs hq hP hS => ?_)
                  obtain ⟨hqT, ⟨rfl, hf, hrest⟩ | ⟨rfl, hf, hrest⟩⟩ := hq
                  · skip
                    exact r_zret C rfl hP hS rfl (by rw [it_re (k := 5) (by decide) b_35]; exact ⟨hqT, Or.inl ⟨rfl, hf, hrest⟩⟩) dX4_readItem_61
                  · skip
                    exact r_zret C rfl hP hS rfl (by rw [it_re (k := 5) (by decide) b_35]; exact ⟨hqT, Or.inr ⟨rfl, hf, hrest⟩⟩) dX4_readItem_61
                · skip
                  refine lv_if_eq (tgt := 62) C.1.1 C.1.2.1 dX4_readItem_53 (by decide) (fun _ => ?_) (fun c_38 => absurd c_38 (by decide))
                  refine lv_iinc (v := 6) (lv' := [(1, .int 6), (0, .ref (gA g 64))]) C.1.1 C.1.2.1 dX4_readItem_62 hl (k := 0) rfl (by decide) (by decide) rfl (fun ls hl => ?_)
                  refine lv_goto (tgt := 36) C.1.1 C.1.2.1 dX4_readItem_65 (by decide) ?_
                  refine lv_iload_n C.1.1 C.1.2.1 dX4_readItem_36 rfl (lv_at hl 0 rfl) ?_
                  refine lv_bipush (v := 7) C.1.1 C.1.2.1 dX4_readItem_37 rfl ?_
                  refine lv_icmp_ge (tgt := 68) C.1.1 C.1.2.1 dX4_readItem_39 (by decide) (fun c_39 => absurd c_39 (by decide)) (fun _ => ?_)
                  refine lv_aload_n C.1.1 C.1.2.1 dX4_readItem_42 rfl (lv_at hl 1 rfl) ?_
                  refine r_get C hP 64 4 hn65 rfl (by decide) rfl hi4 0 (by decide) (List.mem_of_getElem? (i := 1) rfl) rfl (val := .ref (gA g 41)) rfl dX4_readItem_43 ?_
                  refine lv_iload_n C.1.1 C.1.2.1 dX4_readItem_46 rfl (lv_at hl 0 rfl) ?_
                  refine a_S hS (run_S C hP hS hl.1 [.int 6] (kX4_wordOf l g n (stW (rcW w B T q0 it nm) 14 D) 6 (by decide)) gX4_readItem_X4_wordOf hdX4_wordOf rfl ⟨rfl, rfl⟩ ⟨Nat.le_of_ble_eq_true rfl, Nat.le_of_ble_eq_true rfl⟩ rfl [.ref (gA g 41)] rfl (Nat.le_of_ble_eq_true rfl) dX4_readItem_47 ⟨Nat.zero_le _, Nat.zero_le _⟩) (fun H locs hP hS => ?_)
                  refine a_B hS (run_V C hP hS hl.1 41 3 (Nat.lt_of_lt_of_le (by decide) hn) rfl (by decide) rfl [.ref (gK g 7)] (kX3_isWord l g n (stW (rcW w B T q0 it nm) 14 D) B T hT (rc_L hL) (rc_b hB) hB1 7 (by decide) q0 hc rc_2t rc_3t rc_5t) gX4_readItem_X3_isWord rfl hdX3_isWord rfl ⟨rfl, rfl⟩ ⟨Nat.le_of_ble_eq_true rfl, Nat.le_of_ble_eq_true rfl⟩ rfl [] rfl (Nat.le_of_ble_eq_true rfl) dX4_readItem_50 ⟨Nat.zero_le _, Nat.zero_le _⟩) (fun b_40 H locs hP hS => ?_) (fun b_40 H locs hP hS => ?_)
                  · skip
                    refine lv_if_eq (tgt := 62) C.1.1 C.1.2.1 dX4_readItem_53 (by decide) (fun c_41 => absurd c_41 (by decide)) (fun _ => ?_)
                    refine lv_aload_n C.1.1 C.1.2.1 dX4_readItem_56 rfl (lv_at hl 1 rfl) ?_
                    refine lv_iload_n C.1.1 C.1.2.1 dX4_readItem_57 rfl (lv_at hl 0 rfl) ?_
                    refine a_I hS (run_V C hP hS hl.1 64 4 hn65 rfl (by decide) rfl [.int 6] (kX4_readResident l g n (stW (rcW w B T q0 it nm) 14 D) w B T hT hL hB hB1 q0 hc it nm D rfl hn65 6 (by decide) b_40.1 N d hD hA) gX4_readItem_X4_readResident rfl hdX4_readResident rfl ⟨rfl, rfl⟩ ⟨Nat.le_of_ble_eq_true rfl, Nat.le_of_ble_eq_true rfl⟩ rfl [] rfl (Nat.le_of_ble_eq_true rfl) dX4_readItem_58 ⟨Nat.zero_le _, Nat.zero_le _⟩) (fun r u H locs hq hP hS => ?_)
                    obtain ⟨hqT, ⟨rfl, hf, hrest⟩ | ⟨rfl, hf, hrest⟩⟩ := hq
                    · skip
                      exact r_zret C rfl hP hS rfl (by rw [it_re (k := 6) (by decide) b_40]; exact ⟨hqT, Or.inl ⟨rfl, hf, hrest⟩⟩) dX4_readItem_61
                    · skip
                      exact r_zret C rfl hP hS rfl (by rw [it_re (k := 6) (by decide) b_40]; exact ⟨hqT, Or.inr ⟨rfl, hf, hrest⟩⟩) dX4_readItem_61
                  · skip
                    refine lv_if_eq (tgt := 62) C.1.1 C.1.2.1 dX4_readItem_53 (by decide) (fun _ => ?_) (fun c_43 => absurd c_43 (by decide))
                    refine lv_iinc (v := 7) (lv' := [(1, .int 7), (0, .ref (gA g 64))]) C.1.1 C.1.2.1 dX4_readItem_62 hl (k := 0) rfl (by decide) (by decide) rfl (fun ls hl => ?_)
                    refine lv_goto (tgt := 36) C.1.1 C.1.2.1 dX4_readItem_65 (by decide) ?_
                    refine lv_iload_n C.1.1 C.1.2.1 dX4_readItem_36 rfl (lv_at hl 0 rfl) ?_
                    refine lv_bipush (v := 7) C.1.1 C.1.2.1 dX4_readItem_37 rfl ?_
                    refine lv_icmp_ge (tgt := 68) C.1.1 C.1.2.1 dX4_readItem_39 (by decide) (fun _ => ?_) (fun c_44 => absurd c_44 (by decide))
                    refine lv_iconst (v := 0) C.1.1 C.1.2.1 dX4_readItem_68 rfl ?_
                    exact r_zret C rfl hP hS rfl (CR_0 (it_no b_1 b_5 (k7 (P := fun k => wdP B T q0 (hsK.getD k 0)) b_10 b_15 b_20 b_25 b_30 b_35 b_40)) hc) dX4_readItem_69

