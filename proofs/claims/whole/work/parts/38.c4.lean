abbrev rmX5_finding : Room := { frames := 1, cells := 0, slots := 0, locals := 22 }
set_option maxHeartbeats 4000000 in
set_option maxRecDepth 100000 in
theorem kX5_finding (l : Launch) (g : GG) (n : Nat) (v : SV) (j : Nat) (hj : j < 7) (x : Int32) (hx : x = -1000001 - nI j) : Met l yX5_finding wsX5_finding rmX5_finding (PW g n v [.ref (gA g 0), .int x]) (QF g n x (fnC v j)) 0 0 (wA g n) := by
  refine Met.begin RX5 rfl (by decide) rfl (Nat.le_of_ble_eq_true rfl) ?_
  intro p e s m args below meth c ls ha C hP hS hl
  have hn : 64 ≤ n := C.2.1.1.2.1
  have hi5 : ∀ w ∈ u_ws RX5 TX5 8, w ∈ wsX5_finding := by decide +kernel
  have hl : lv_has ls 3 [(0, .ref (gA g 0)), (1, .int x)] := hl
  refine lv_ldc (v := (-1000001)) C.1.1 C.1.2.1 C.1.2.2.2.1 (C.1.2.2.2.2 _ (List.mem_of_getElem? (i := 1) rfl)) dX5_finding_0 ?_
  refine lv_iload_n C.1.1 C.1.2.1 dX5_finding_2 rfl (lv_at hl 1 rfl) ?_
  refine lv_isub C.1.1 C.1.2.1 dX5_finding_3 ?_
  refine lv_topE (nI j) (by rw [hx]; exact lo_sub j hj) ?_
  refine lv_istore_n (lv' := [(2, .int (nI j)), (0, .ref (gA g 0)), (1, .int x)]) C.1.1 C.1.2.1 dX5_finding_4 rfl hl (by decide) rfl (fun ls hl => ?_)
  refine lv_iload_n C.1.1 C.1.2.1 dX5_finding_5 rfl (lv_at hl 0 rfl) ?_
  refine lv_iconst (v := 0) C.1.1 C.1.2.1 dX5_finding_6 rfl ?_
  refine lv_bipush (v := 6) C.1.1 C.1.2.1 dX5_finding_7 rfl ?_
  refine a_B hS (run_S C hP hS hl.1 [.int (nI j), .int 0, .int 6] (kX5_isWithin l g n v (nI j) 0 6) gX5_finding_X5_isWithin hdX5_isWithin rfl ⟨rfl, rfl⟩ ⟨Nat.le_of_ble_eq_true rfl, Nat.le_of_ble_eq_true rfl⟩ rfl [] rfl (Nat.le_of_ble_eq_true rfl) dX5_finding_9 ⟨Nat.zero_le _, Nat.zero_le _⟩) (fun b_1 H locs hP hS => ?_) (fun b_1 H locs hP hS => ?_)
  · skip
    refine lv_if_eq (tgt := 25) C.1.1 C.1.2.1 dX5_finding_12 (by decide) (fun c_2 => absurd c_2 (by decide)) (fun _ => ?_)
    refine lv_aload_n C.1.1 C.1.2.1 dX5_finding_15 rfl (lv_at hl 1 rfl) ?_
    refine r_get C hP 0 5 (Nat.lt_of_lt_of_le (by decide) hn) rfl (by decide) rfl hi5 7 (by decide) (List.mem_of_getElem? (i := 2) rfl) rfl (val := .ref (gA g 52)) rfl dX5_finding_16 ?_
    refine lv_iload_n C.1.1 C.1.2.1 dX5_finding_19 rfl (lv_at hl 0 rfl) ?_
    refine lv_dup2_11 C.1.1 C.1.2.1 dX5_finding_20 rfl rfl ?_
    refine r_iald C hP 52 (Nat.lt_of_lt_of_le (by decide) hn) rfl j rfl (N := 7) rfl (by decide) (by omega) dX5_finding_21 ?_
    refine lv_iconst (v := 1) C.1.1 C.1.2.1 dX5_finding_22 rfl ?_
    refine lv_iadd C.1.1 C.1.2.1 dX5_finding_23 ?_
    refine r_iast C hP hS 52 (Nat.lt_of_lt_of_le (by decide) hn) rfl j rfl (N := 7) rfl (by decide) (by omega) dX5_finding_24 (fun H locs hP hS => ?_)
    obtain ⟨v_3, hv_3⟩ : ∃ zz, zz = up v 52 j ((v.1 52 j) + 1) := ⟨_, rfl⟩
    rw [← hv_3] at hP
    refine lv_iload_n C.1.1 C.1.2.1 dX5_finding_25 rfl (lv_at hl 2 rfl) ?_
    exact t_F C rfl hP hS rfl (by assumption) dX5_finding_26
  · skip
    exact absurd ⟨nI_pos' (by omega), nI_le (b := 6) (by omega) (by decide)⟩ b_1

abbrev rmX5_listed : Room := { frames := 2, cells := 0, slots := 0, locals := 44 }
set_option maxHeartbeats 4000000 in
set_option maxRecDepth 100000 in
theorem kX5_listed (l : Launch) (g : GG) (n : Nat) (v : SV) (x : Int32) (N : Nat) (hR : Rl v N) : Met l yX5_listed wsX5_listed rmX5_listed (PW g n v [.ref (gA g 0), .int x]) (QP g n v (fun u => listedM u x)) 0 0 (wA g n) := by
  refine Met.begin RX5 rfl (by decide) rfl (Nat.le_of_ble_eq_true rfl) ?_
  intro p e s m args below meth c ls ha C hP hS hl
  have hn : 64 ≤ n := C.2.1.1.2.1
  have hi2 : ∀ w ∈ u_ws RX2 TX2 11, w ∈ wsX5_listed := by decide +kernel
  have hi5 : ∀ w ∈ u_ws RX5 TX5 8, w ∈ wsX5_listed := by decide +kernel
  have hl : lv_has ls 2 [(0, .ref (gA g 0)), (1, .int x)] := hl
  have hC := hR.1.1
  have hA := hR.1.2
  have h8 := hC.1
  have hD : okC (v.1 54) N := okC_agr (agr_symm hA) hC
  have hM := okC_M hD
  refine lv_iload_n C.1.1 C.1.2.1 dX5_listed_0 rfl (lv_at hl 1 rfl) ?_
  refine a_B hS (run_S C hP hS hl.1 [.int x] (kX5_isPlace l g n v x) gX5_listed_X5_isPlace hdX5_isPlace rfl ⟨rfl, rfl⟩ ⟨Nat.le_of_ble_eq_true rfl, Nat.le_of_ble_eq_true rfl⟩ rfl [] rfl (Nat.le_of_ble_eq_true rfl) dX5_listed_1 ⟨Nat.zero_le _, Nat.zero_le _⟩) (fun b_1 H locs hP hS => ?_) (fun b_1 H locs hP hS => ?_)
  · skip
    have kb_1 := b_1
    obtain ⟨jx, hjx, rfl⟩ := b_1
    refine lv_if_ne (tgt := 14) C.1.1 C.1.2.1 dX5_listed_4 (by decide) (fun _ => ?_) (fun c_2 => absurd c_2 (by decide))
    refine lv_aload_n C.1.1 C.1.2.1 dX5_listed_14 rfl (lv_at hl 0 rfl) ?_
    refine r_get C hP 0 5 (Nat.lt_of_lt_of_le (by decide) hn) rfl (by decide) rfl hi5 0 (by decide) (List.mem_of_getElem? (i := 2) rfl) rfl (val := .ref (gA g 1)) rfl dX5_listed_15 ?_
    refine r_get C hP 1 2 (Nat.lt_of_lt_of_le (by decide) hn) rfl (by decide) rfl hi2 3 (by decide) (List.mem_of_getElem? (i := 3) rfl) rfl (val := .ref (gA g 2)) rfl dX5_listed_18 ?_
    refine lv_iload_n C.1.1 C.1.2.1 dX5_listed_21 rfl (lv_at hl 1 rfl) ?_
    refine r_iald C hP 2 (Nat.lt_of_lt_of_le (by decide) hn) rfl jx rfl (N := 6) rfl (by decide) (by omega) dX5_listed_22 ?_
    refine lv_topE (v.1 54 (7 + jx)) ((scr_rd (i := 7 + jx) (sam_rfl v).1 (sl_1 (by omega)) (by omega)).trans (agr_lo (agr_symm hA) (by omega))) ?_
    exact t_P C rfl hP hS (ps_eq (u := v) hR (show listedM v (nI jx) = (v.1 54 (7 + jx), v) from by simp only [listedM, nM_eq hM, cif_pos kb_1, tn_nI (show jx < 2 ^ 31 by omega)]) rfl (sam_rfl v)) (rsc_rfl v) dX5_listed_23
  · skip
    refine lv_if_ne (tgt := 14) C.1.1 C.1.2.1 dX5_listed_4 (by decide) (fun c_3 => absurd c_3 (by decide)) (fun _ => ?_)
    refine lv_aload_n C.1.1 C.1.2.1 dX5_listed_7 rfl (lv_at hl 0 rfl) ?_
    refine lv_ldc (v := (-1000001)) C.1.1 C.1.2.1 C.1.2.2.2.1 (C.1.2.2.2.2 _ (List.mem_of_getElem? (i := 1) rfl)) dX5_listed_8 ?_
    refine a_F hS (run_V C hP hS hl.1 0 5 (Nat.lt_of_lt_of_le (by decide) hn) rfl (by decide) rfl [.int (-1000001)] (kX5_finding l g n v 0 (by decide) (-1000001) rfl) gX5_listed_X5_finding rfl hdX5_finding rfl ⟨rfl, rfl⟩ ⟨Nat.le_of_ble_eq_true rfl, Nat.le_of_ble_eq_true rfl⟩ rfl [] rfl (Nat.le_of_ble_eq_true rfl) dX5_listed_10 ⟨Nat.zero_le _, Nat.zero_le _⟩) (fun H locs hP hS => ?_)
    have e54_4 : (fnC v 0).1 54 = v.1 54 := (upw_ne _ _ (by decide))
    exact t_P C rfl hP hS (ps_fd (f := fun u => listedM u x) hR (sam_rfl v) (by decide) (by simp only [listedM, nM_of e54_4 hM, e54_4, cif_neg b_1]) rfl) (rsc_trans (rsc_rfl v) (rsc_w _ _ (by decide))) dX5_listed_13

abbrev rmX5_register : Room := { frames := 2, cells := 0, slots := 0, locals := 44 }
set_option maxHeartbeats 4000000 in
set_option maxRecDepth 100000 in
theorem kX5_register (l : Launch) (g : GG) (n : Nat) (v : SV) (x : Int32) (N : Nat) (hR : Rl v N) : Met l yX5_register wsX5_register rmX5_register (PW g n v [.ref (gA g 0), .int x]) (QP g n v (fun u => registerM u x)) 0 0 (wA g n) := by
  refine Met.begin RX5 rfl (by decide) rfl (Nat.le_of_ble_eq_true rfl) ?_
  intro p e s m args below meth c ls ha C hP hS hl
  have hn : 64 ≤ n := C.2.1.1.2.1
  have hi2 : ∀ w ∈ u_ws RX2 TX2 11, w ∈ wsX5_register := by decide +kernel
  have hi5 : ∀ w ∈ u_ws RX5 TX5 8, w ∈ wsX5_register := by decide +kernel
  have hl : lv_has ls 2 [(0, .ref (gA g 0)), (1, .int x)] := hl
  have hC := hR.1.1
  have hA := hR.1.2
  have h8 := hC.1
  have hD : okC (v.1 54) N := okC_agr (agr_symm hA) hC
  have hM := okC_M hD
  refine lv_iload_n C.1.1 C.1.2.1 dX5_register_0 rfl (lv_at hl 1 rfl) ?_
  refine a_B hS (run_S C hP hS hl.1 [.int x] (kX5_isGood l g n v x) gX5_register_X5_isGood hdX5_isGood rfl ⟨rfl, rfl⟩ ⟨Nat.le_of_ble_eq_true rfl, Nat.le_of_ble_eq_true rfl⟩ rfl [] rfl (Nat.le_of_ble_eq_true rfl) dX5_register_1 ⟨Nat.zero_le _, Nat.zero_le _⟩) (fun b_1 H locs hP hS => ?_) (fun b_1 H locs hP hS => ?_)
  · skip
    have kb_1 := b_1
    obtain ⟨jx, hjx, rfl⟩ := b_1
    refine lv_if_ne (tgt := 14) C.1.1 C.1.2.1 dX5_register_4 (by decide) (fun _ => ?_) (fun c_2 => absurd c_2 (by decide))
    refine lv_aload_n C.1.1 C.1.2.1 dX5_register_14 rfl (lv_at hl 0 rfl) ?_
    refine r_get C hP 0 5 (Nat.lt_of_lt_of_le (by decide) hn) rfl (by decide) rfl hi5 0 (by decide) (List.mem_of_getElem? (i := 2) rfl) rfl (val := .ref (gA g 1)) rfl dX5_register_15 ?_
    refine r_get C hP 1 2 (Nat.lt_of_lt_of_le (by decide) hn) rfl (by decide) rfl hi2 4 (by decide) (List.mem_of_getElem? (i := 3) rfl) rfl (val := .ref (gA g 3)) rfl dX5_register_18 ?_
    refine lv_iload_n C.1.1 C.1.2.1 dX5_register_21 rfl (lv_at hl 1 rfl) ?_
    refine r_iald C hP 3 (Nat.lt_of_lt_of_le (by decide) hn) rfl jx rfl (N := 12) rfl (by decide) (by omega) dX5_register_22 ?_
    refine lv_topE (v.1 54 (13 + jx)) ((scr_rd (i := 13 + jx) (sam_rfl v).1 (sl_2 (by omega)) (by omega)).trans (agr_lo (agr_symm hA) (by omega))) ?_
    exact t_P C rfl hP hS (ps_eq (u := v) hR (show registerM v (nI jx) = (v.1 54 (13 + jx), v) from by simp only [registerM, nM_eq hM, cif_pos kb_1, tn_nI (show jx < 2 ^ 31 by omega)]) rfl (sam_rfl v)) (rsc_rfl v) dX5_register_23
  · skip
    refine lv_if_ne (tgt := 14) C.1.1 C.1.2.1 dX5_register_4 (by decide) (fun c_3 => absurd c_3 (by decide)) (fun _ => ?_)
    refine lv_aload_n C.1.1 C.1.2.1 dX5_register_7 rfl (lv_at hl 0 rfl) ?_
    refine lv_ldc (v := (-1000001)) C.1.1 C.1.2.1 C.1.2.2.2.1 (C.1.2.2.2.2 _ (List.mem_of_getElem? (i := 1) rfl)) dX5_register_8 ?_
    refine a_F hS (run_V C hP hS hl.1 0 5 (Nat.lt_of_lt_of_le (by decide) hn) rfl (by decide) rfl [.int (-1000001)] (kX5_finding l g n v 0 (by decide) (-1000001) rfl) gX5_register_X5_finding rfl hdX5_finding rfl ⟨rfl, rfl⟩ ⟨Nat.le_of_ble_eq_true rfl, Nat.le_of_ble_eq_true rfl⟩ rfl [] rfl (Nat.le_of_ble_eq_true rfl) dX5_register_10 ⟨Nat.zero_le _, Nat.zero_le _⟩) (fun H locs hP hS => ?_)
    have e54_4 : (fnC v 0).1 54 = v.1 54 := (upw_ne _ _ (by decide))
    exact t_P C rfl hP hS (ps_fd (f := fun u => registerM u x) hR (sam_rfl v) (by decide) (by simp only [registerM, nM_of e54_4 hM, e54_4, cif_neg b_1]) rfl) (rsc_trans (rsc_rfl v) (rsc_w _ _ (by decide))) dX5_register_13

abbrev rmX5_gold : Room := { frames := 7, cells := 0, slots := 0, locals := 155 }
set_option maxHeartbeats 4000000 in
set_option maxRecDepth 100000 in
theorem kX5_gold (l : Launch) (g : GG) (n : Nat) (v : SV) (x : Int32) (N : Nat) (hR : Rl v N) : Met l yX5_gold wsX5_gold rmX5_gold (PW g n v [.ref (gA g 0), .int x]) (QP g n v (fun u => goldM u x)) 0 0 (wA g n) := by
  refine Met.begin RX5 rfl (by decide) rfl (Nat.le_of_ble_eq_true rfl) ?_
  intro p e s m args below meth c ls ha C hP hS hl
  have hn : 64 ≤ n := C.2.1.1.2.1
  have hi0 : ∀ w ∈ u_ws RX0 TX0 6, w ∈ wsX5_gold := by decide +kernel
  have hi2 : ∀ w ∈ u_ws RX2 TX2 11, w ∈ wsX5_gold := by decide +kernel
  have hi5 : ∀ w ∈ u_ws RX5 TX5 8, w ∈ wsX5_gold := by decide +kernel
  have hl : lv_has ls 2 [(0, .ref (gA g 0)), (1, .int x)] := hl
  have hC := hR.1.1
  have hA := hR.1.2
  have h8 := hC.1
  have hD : okC (v.1 54) N := okC_agr (agr_symm hA) hC
  have hM := okC_M hD
  refine lv_iload_n C.1.1 C.1.2.1 dX5_gold_0 rfl (lv_at hl 1 rfl) ?_
  refine lv_iconst (v := 0) C.1.1 C.1.2.1 dX5_gold_1 rfl ?_
  refine lv_bipush (v := 100) C.1.1 C.1.2.1 dX5_gold_2 rfl ?_
  refine a_B hS (run_S C hP hS hl.1 [.int x, .int 0, .int 100] (kX5_isWithin l g n v x 0 100) gX5_gold_X5_isWithin hdX5_isWithin rfl ⟨rfl, rfl⟩ ⟨Nat.le_of_ble_eq_true rfl, Nat.le_of_ble_eq_true rfl⟩ rfl [] rfl (Nat.le_of_ble_eq_true rfl) dX5_gold_4 ⟨Nat.zero_le _, Nat.zero_le _⟩) (fun b_1 H locs hP hS => ?_) (fun b_1 H locs hP hS => ?_)
  · skip
    have b_1 := (in_iffC 101 (by decide) (by decide)).mp b_1
    have kb_1 := b_1
    obtain ⟨jx, hjx, rfl⟩ := b_1
    refine lv_if_ne (tgt := 17) C.1.1 C.1.2.1 dX5_gold_7 (by decide) (fun _ => ?_) (fun c_2 => absurd c_2 (by decide))
    refine lv_aload_n C.1.1 C.1.2.1 dX5_gold_17 rfl (lv_at hl 0 rfl) ?_
    refine r_get C hP 0 5 (Nat.lt_of_lt_of_le (by decide) hn) rfl (by decide) rfl hi5 1 (by decide) (List.mem_of_getElem? (i := 2) rfl) rfl (val := .ref (gA g 14)) rfl dX5_gold_18 ?_
    refine lv_aload_n C.1.1 C.1.2.1 dX5_gold_21 rfl (lv_at hl 0 rfl) ?_
    refine r_get C hP 0 5 (Nat.lt_of_lt_of_le (by decide) hn) rfl (by decide) rfl hi5 0 (by decide) (List.mem_of_getElem? (i := 3) rfl) rfl (val := .ref (gA g 1)) rfl dX5_gold_22 ?_
    refine a_G hS (run_V C hP hS hl.1 14 2 (Nat.lt_of_lt_of_le (by decide) hn) rfl (by decide) rfl [.ref (gA g 1)] (kX2_become l g n v v 14 (stR v 14) 1 N (Or.inr (Or.inl rfl)) (Or.inl rfl) (by decide) (st_self _ 14).symm (by rw [scr_1 (sam_rfl v).1]; exact hC)) gX5_gold_X2_become rfl hdX2_become rfl ⟨rfl, rfl⟩ ⟨Nat.le_of_ble_eq_true rfl, Nat.le_of_ble_eq_true rfl⟩ rfl [] rfl (Nat.le_of_ble_eq_true rfl) dX5_gold_25 ⟨Nat.zero_le _, Nat.zero_le _⟩) (fun H locs hP hS => ?_)
    obtain ⟨X_3, hX_3⟩ : ∃ zz, zz = becM (stR v 14) (stR v 1) N := ⟨_, rfl⟩
    rw [← hX_3] at hP
    have aX_3 : agr N (stR v 1) X_3 := by rw [hX_3, scr_1 (sam_rfl v).1]; exact bec_agr _ _ _
    have cX_3 : okC X_3 N := okC_agr aX_3 hC
    refine lv_aload_n C.1.1 C.1.2.1 dX5_gold_28 rfl (lv_at hl 0 rfl) ?_
    refine r_get C hP 0 5 (Nat.lt_of_lt_of_le (by decide) hn) rfl (by decide) rfl hi5 1 (by decide) (List.mem_of_getElem? (i := 2) rfl) rfl (val := .ref (gA g 14)) rfl dX5_gold_29 ?_
    refine lv_iload_n C.1.1 C.1.2.1 dX5_gold_32 rfl (lv_at hl 1 rfl) ?_
    refine a_G hS (run_V C hP hS hl.1 14 2 (Nat.lt_of_lt_of_le (by decide) hn) rfl (by decide) rfl [.int (nI jx)] (kX2_passDays l g n (stW v 14 X_3) jx (by omega) v 14 X_3 N (Or.inr (Or.inl rfl)) rfl cX_3) gX5_gold_X2_passDays rfl hdX2_passDays rfl ⟨rfl, rfl⟩ ⟨Nat.le_of_ble_eq_true rfl, Nat.le_of_ble_eq_true rfl⟩ rfl [] rfl (Nat.le_of_ble_eq_true rfl) dX5_gold_33 ⟨Nat.zero_le _, Nat.zero_le _⟩) (fun H locs hP hS => ?_)
    refine lv_aload_n C.1.1 C.1.2.1 dX5_gold_36 rfl (lv_at hl 0 rfl) ?_
    refine r_get C hP 0 5 (Nat.lt_of_lt_of_le (by decide) hn) rfl (by decide) rfl hi5 1 (by decide) (List.mem_of_getElem? (i := 2) rfl) rfl (val := .ref (gA g 14)) rfl dX5_gold_37 ?_
    refine r_get C hP 14 2 (Nat.lt_of_lt_of_le (by decide) hn) rfl (by decide) rfl hi2 5 (by decide) (List.mem_of_getElem? (i := 4) rfl) rfl (val := .int ((stW v 14 (daysM X_3 jx)).1 14 5)) rfl dX5_gold_40 ?_
    refine lv_topE ((daysM (v.1 54) jx) 6) ((st_at (i := 6) (sl_k rfl) (by decide)).trans (agr_lo (agr_days (agr_symm (agr_trans hA aX_3)) (okC_M cX_3) jx) (by decide))) ?_
    have e54_4 : (stW v 14 (daysM X_3 jx)).1 54 = v.1 54 := (st_far (by decide))
    exact t_P C rfl hP hS (ps_eq (u := stW v 14 (daysM X_3 jx)) hR (show goldM (stW v 14 (daysM X_3 jx)) (nI jx) = (daysM (v.1 54) jx 6, asideM (stW v 14 (daysM X_3 jx))) from by simp only [goldM, nM_of e54_4 hM, e54_4, cif_pos kb_1, tn_nI (show jx < 2 ^ 31 by omega)]) rfl (sam_trans (sam_trans (sam_rfl v) (sam_14 _ _)) (sam_aside _))) (rsc_trans (rsc_rfl v) (rsc_st _ _ (by decide))) dX5_gold_43
  · skip
    have b_1 := fun h => b_1 ((in_iffC 101 (by decide) (by decide)).mpr h)
    refine lv_if_ne (tgt := 17) C.1.1 C.1.2.1 dX5_gold_7 (by decide) (fun c_5 => absurd c_5 (by decide)) (fun _ => ?_)
    refine lv_aload_n C.1.1 C.1.2.1 dX5_gold_10 rfl (lv_at hl 0 rfl) ?_
    refine lv_ldc (v := (-1000001)) C.1.1 C.1.2.1 C.1.2.2.2.1 (C.1.2.2.2.2 _ (List.mem_of_getElem? (i := 1) rfl)) dX5_gold_11 ?_
    refine a_F hS (run_V C hP hS hl.1 0 5 (Nat.lt_of_lt_of_le (by decide) hn) rfl (by decide) rfl [.int (-1000001)] (kX5_finding l g n v 0 (by decide) (-1000001) rfl) gX5_gold_X5_finding rfl hdX5_finding rfl ⟨rfl, rfl⟩ ⟨Nat.le_of_ble_eq_true rfl, Nat.le_of_ble_eq_true rfl⟩ rfl [] rfl (Nat.le_of_ble_eq_true rfl) dX5_gold_13 ⟨Nat.zero_le _, Nat.zero_le _⟩) (fun H locs hP hS => ?_)
    have e54_6 : (fnC v 0).1 54 = v.1 54 := (upw_ne _ _ (by decide))
    exact t_P C rfl hP hS (ps_fd (f := fun u => goldM u x) hR (sam_rfl v) (by decide) (by simp only [goldM, nM_of e54_6 hM, e54_6, cif_neg b_1]) rfl) (rsc_trans (rsc_rfl v) (rsc_w _ _ (by decide))) dX5_gold_16

abbrev rmX5_cry : Room := { frames := 2, cells := 0, slots := 0, locals := 44 }
set_option maxHeartbeats 4000000 in
set_option maxRecDepth 100000 in
theorem kX5_cry (l : Launch) (g : GG) (n : Nat) (v : SV) (x y : Int32) (N : Nat) (hR : Rl v N) : Met l yX5_cry wsX5_cry rmX5_cry (PW g n v [.ref (gA g 0), .int x, .int y]) (QP g n v (fun u => cryM u x y)) 0 0 (wA g n) := by
  refine Met.begin RX5 rfl (by decide) rfl (Nat.le_of_ble_eq_true rfl) ?_
  intro p e s m args below meth c ls ha C hP hS hl
  have hn : 64 ≤ n := C.2.1.1.2.1
  have hi2 : ∀ w ∈ u_ws RX2 TX2 11, w ∈ wsX5_cry := by decide +kernel
  have hi5 : ∀ w ∈ u_ws RX5 TX5 8, w ∈ wsX5_cry := by decide +kernel
  have hl : lv_has ls 4 [(0, .ref (gA g 0)), (1, .int x), (2, .int y)] := hl
  have hC := hR.1.1
  have hA := hR.1.2
  have h8 := hC.1
  have hD : okC (v.1 54) N := okC_agr (agr_symm hA) hC
  have hM := okC_M hD
  refine lv_iload_n C.1.1 C.1.2.1 dX5_cry_0 rfl (lv_at hl 1 rfl) ?_
  refine a_B hS (run_S C hP hS hl.1 [.int x] (kX5_isPlace l g n v x) gX5_cry_X5_isPlace hdX5_isPlace rfl ⟨rfl, rfl⟩ ⟨Nat.le_of_ble_eq_true rfl, Nat.le_of_ble_eq_true rfl⟩ rfl [] rfl (Nat.le_of_ble_eq_true rfl) dX5_cry_1 ⟨Nat.zero_le _, Nat.zero_le _⟩) (fun b_1 H locs hP hS => ?_) (fun b_1 H locs hP hS => ?_)
  · skip
    have kb_1 := b_1
    obtain ⟨jx, hjx, rfl⟩ := b_1
    refine lv_if_eq (tgt := 14) C.1.1 C.1.2.1 dX5_cry_4 (by decide) (fun c_2 => absurd c_2 (by decide)) (fun _ => ?_)
    refine lv_iload_n C.1.1 C.1.2.1 dX5_cry_7 rfl (lv_at hl 2 rfl) ?_
    refine a_B hS (run_S C hP hS hl.1 [.int y] (kX5_isGood l g n v y) gX5_cry_X5_isGood hdX5_isGood rfl ⟨rfl, rfl⟩ ⟨Nat.le_of_ble_eq_true rfl, Nat.le_of_ble_eq_true rfl⟩ rfl [] rfl (Nat.le_of_ble_eq_true rfl) dX5_cry_8 ⟨Nat.zero_le _, Nat.zero_le _⟩) (fun b_3 H locs hP hS => ?_) (fun b_3 H locs hP hS => ?_)
    · skip
      have kb_3 := b_3
      obtain ⟨jy, hjy, rfl⟩ := b_3
      refine lv_if_ne (tgt := 21) C.1.1 C.1.2.1 dX5_cry_11 (by decide) (fun _ => ?_) (fun c_4 => absurd c_4 (by decide))
      refine lv_aload_n C.1.1 C.1.2.1 dX5_cry_21 rfl (lv_at hl 0 rfl) ?_
      refine r_get C hP 0 5 (Nat.lt_of_lt_of_le (by decide) hn) rfl (by decide) rfl hi5 0 (by decide) (List.mem_of_getElem? (i := 2) rfl) rfl (val := .ref (gA g 1)) rfl dX5_cry_22 ?_
      refine r_get C hP 1 2 (Nat.lt_of_lt_of_le (by decide) hn) rfl (by decide) rfl hi2 3 (by decide) (List.mem_of_getElem? (i := 3) rfl) rfl (val := .ref (gA g 2)) rfl dX5_cry_25 ?_
      refine lv_iload_n C.1.1 C.1.2.1 dX5_cry_28 rfl (lv_at hl 1 rfl) ?_
      refine r_iald C hP 2 (Nat.lt_of_lt_of_le (by decide) hn) rfl jx rfl (N := 6) rfl (by decide) (by omega) dX5_cry_29 ?_
      refine lv_topE (v.1 54 (7 + jx)) ((scr_rd (i := 7 + jx) (sam_rfl v).1 (sl_1 (by omega)) (by omega)).trans (agr_lo (agr_symm hA) (by omega))) ?_
      refine lv_istore_n (lv' := [(3, .int (v.1 54 (7 + jx))), (0, .ref (gA g 0)), (1, .int (nI jx)), (2, .int (nI jy))]) C.1.1 C.1.2.1 dX5_cry_30 rfl hl (by decide) rfl (fun ls hl => ?_)
      refine lv_aload_n C.1.1 C.1.2.1 dX5_cry_31 rfl (lv_at hl 1 rfl) ?_
      refine r_get C hP 0 5 (Nat.lt_of_lt_of_le (by decide) hn) rfl (by decide) rfl hi5 0 (by decide) (List.mem_of_getElem? (i := 2) rfl) rfl (val := .ref (gA g 1)) rfl dX5_cry_32 ?_
      refine r_get C hP 1 2 (Nat.lt_of_lt_of_le (by decide) hn) rfl (by decide) rfl hi2 3 (by decide) (List.mem_of_getElem? (i := 3) rfl) rfl (val := .ref (gA g 2)) rfl dX5_cry_35 ?_
      refine lv_iload_n C.1.1 C.1.2.1 dX5_cry_38 rfl (lv_at hl 2 rfl) ?_
      refine lv_iload_n C.1.1 C.1.2.1 dX5_cry_39 rfl (lv_at hl 3 rfl) ?_
      refine r_iast C hP hS 2 (Nat.lt_of_lt_of_le (by decide) hn) rfl jx rfl (N := 6) rfl (by decide) (by omega) dX5_cry_40 (fun H locs hP hS => ?_)
      rw [show up v 2 jx (nI jy) = stW v 1 (upd (stR v 1) (7 + jx) (nI jy)) from st_up0 (i := 7 + jx) (sl_1 (by omega)) (by omega)] at hP
      refine lv_iload_n C.1.1 C.1.2.1 dX5_cry_41 rfl (lv_at hl 0 rfl) ?_
      have e54_5 : (stW v 1 (upd (stR v 1) (7 + jx) (nI jy))).1 54 = v.1 54 := (st_far (by decide))
      exact t_P C rfl hP hS (ps_to (show cryM (stW v 1 (upd (stR v 1) (7 + jx) (nI jy))) (nI jx) (nI jy) = (v.1 54 (7 + jx), upw (stW v 1 (upd (stR v 1) (7 + jx) (nI jy))) 54 (upd (v.1 54) (7 + jx) (nI jy))) from by simp only [cryM, nM_of e54_5 hM, e54_5, cif_pos kb_1, cif_pos kb_3, tn_nI (show jx < 2 ^ 31 by omega), tn_nI (show jy < 2 ^ 31 by omega), up]) rfl (Rl_row hR (okC_list hC (by omega) hjy rfl) (agr_upd hA rfl))) (rsc_trans (rsc_rfl v) (rsc_st _ _ (by decide))) dX5_cry_42
    · skip
      refine lv_if_ne (tgt := 21) C.1.1 C.1.2.1 dX5_cry_11 (by decide) (fun c_6 => absurd c_6 (by decide)) (fun _ => ?_)
      refine lv_aload_n C.1.1 C.1.2.1 dX5_cry_14 rfl (lv_at hl 0 rfl) ?_
      refine lv_ldc (v := (-1000001)) C.1.1 C.1.2.1 C.1.2.2.2.1 (C.1.2.2.2.2 _ (List.mem_of_getElem? (i := 1) rfl)) dX5_cry_15 ?_
      refine a_F hS (run_V C hP hS hl.1 0 5 (Nat.lt_of_lt_of_le (by decide) hn) rfl (by decide) rfl [.int (-1000001)] (kX5_finding l g n v 0 (by decide) (-1000001) rfl) gX5_cry_X5_finding rfl hdX5_finding rfl ⟨rfl, rfl⟩ ⟨Nat.le_of_ble_eq_true rfl, Nat.le_of_ble_eq_true rfl⟩ rfl [] rfl (Nat.le_of_ble_eq_true rfl) dX5_cry_17 ⟨Nat.zero_le _, Nat.zero_le _⟩) (fun H locs hP hS => ?_)
      have e54_7 : (fnC v 0).1 54 = v.1 54 := (upw_ne _ _ (by decide))
      exact t_P C rfl hP hS (ps_fd (f := fun u => cryM u (nI jx) y) hR (sam_rfl v) (by decide) (by simp only [cryM, nM_of e54_7 hM, e54_7, cif_pos kb_1, cif_neg b_3, tn_nI (show jx < 2 ^ 31 by omega)]) rfl) (rsc_trans (rsc_rfl v) (rsc_w _ _ (by decide))) dX5_cry_20
  · skip
    refine lv_if_eq (tgt := 14) C.1.1 C.1.2.1 dX5_cry_4 (by decide) (fun _ => ?_) (fun c_8 => absurd c_8 (by decide))
    refine lv_aload_n C.1.1 C.1.2.1 dX5_cry_14 rfl (lv_at hl 0 rfl) ?_
    refine lv_ldc (v := (-1000001)) C.1.1 C.1.2.1 C.1.2.2.2.1 (C.1.2.2.2.2 _ (List.mem_of_getElem? (i := 1) rfl)) dX5_cry_15 ?_
    refine a_F hS (run_V C hP hS hl.1 0 5 (Nat.lt_of_lt_of_le (by decide) hn) rfl (by decide) rfl [.int (-1000001)] (kX5_finding l g n v 0 (by decide) (-1000001) rfl) gX5_cry_X5_finding rfl hdX5_finding rfl ⟨rfl, rfl⟩ ⟨Nat.le_of_ble_eq_true rfl, Nat.le_of_ble_eq_true rfl⟩ rfl [] rfl (Nat.le_of_ble_eq_true rfl) dX5_cry_17 ⟨Nat.zero_le _, Nat.zero_le _⟩) (fun H locs hP hS => ?_)
    have e54_9 : (fnC v 0).1 54 = v.1 54 := (upw_ne _ _ (by decide))
    exact t_P C rfl hP hS (ps_fd (f := fun u => cryM u x y) hR (sam_rfl v) (by decide) (by simp only [cryM, nM_of e54_9 hM, e54_9, cif_neg b_1]) rfl) (rsc_trans (rsc_rfl v) (rsc_w _ _ (by decide))) dX5_cry_20

abbrev rmX5_comers : Room := { frames := 5, cells := 0, slots := 0, locals := 113 }
set_option maxHeartbeats 4000000 in
set_option maxRecDepth 100000 in
theorem kX5_comers (l : Launch) (g : GG) (n : Nat) (v : SV) (x : Int32) (N : Nat) (hR : Rl v N) : Met l yX5_comers wsX5_comers rmX5_comers (PW g n v [.ref (gA g 0), .int x]) (QP g n v (fun u => comersM u x)) 0 0 (wA g n) := by
  refine Met.begin RX5 rfl (by decide) rfl (Nat.le_of_ble_eq_true rfl) ?_
  intro p e s m args below meth c ls ha C hP hS hl
  have hn : 64 ≤ n := C.2.1.1.2.1
  have hi0 : ∀ w ∈ u_ws RX0 TX0 6, w ∈ wsX5_comers := by decide +kernel
  have hi2 : ∀ w ∈ u_ws RX2 TX2 11, w ∈ wsX5_comers := by decide +kernel
  have hi5 : ∀ w ∈ u_ws RX5 TX5 8, w ∈ wsX5_comers := by decide +kernel
  have hl : lv_has ls 2 [(0, .ref (gA g 0)), (1, .int x)] := hl
  have hC := hR.1.1
  have hA := hR.1.2
  have h8 := hC.1
  have hD : okC (v.1 54) N := okC_agr (agr_symm hA) hC
  have hM := okC_M hD
  refine lv_iload_n C.1.1 C.1.2.1 dX5_comers_0 rfl (lv_at hl 1 rfl) ?_
  refine a_B hS (run_S C hP hS hl.1 [.int x] (kX5_isGood l g n v x) gX5_comers_X5_isGood hdX5_isGood rfl ⟨rfl, rfl⟩ ⟨Nat.le_of_ble_eq_true rfl, Nat.le_of_ble_eq_true rfl⟩ rfl [] rfl (Nat.le_of_ble_eq_true rfl) dX5_comers_1 ⟨Nat.zero_le _, Nat.zero_le _⟩) (fun b_1 H locs hP hS => ?_) (fun b_1 H locs hP hS => ?_)
  · skip
    have kb_1 := b_1
    obtain ⟨jx, hjx, rfl⟩ := b_1
    refine lv_if_ne (tgt := 14) C.1.1 C.1.2.1 dX5_comers_4 (by decide) (fun _ => ?_) (fun c_2 => absurd c_2 (by decide))
    refine lv_aload_n C.1.1 C.1.2.1 dX5_comers_14 rfl (lv_at hl 0 rfl) ?_
    refine r_get C hP 0 5 (Nat.lt_of_lt_of_le (by decide) hn) rfl (by decide) rfl hi5 0 (by decide) (List.mem_of_getElem? (i := 2) rfl) rfl (val := .ref (gA g 1)) rfl dX5_comers_15 ?_
    refine lv_iload_n C.1.1 C.1.2.1 dX5_comers_18 rfl (lv_at hl 1 rfl) ?_
    refine a_F hS (run_V C hP hS hl.1 1 2 (Nat.lt_of_lt_of_le (by decide) hn) rfl (by decide) rfl [.int (nI jx)] (kX2_whoWouldCome l g n v (nI jx) v 1 (stR v 1) N (Or.inl rfl) (scr_self (sam_rfl v).1) hC) gX5_comers_X2_whoWouldCome rfl hdX2_whoWouldCome rfl ⟨rfl, rfl⟩ ⟨Nat.le_of_ble_eq_true rfl, Nat.le_of_ble_eq_true rfl⟩ rfl [] rfl (Nat.le_of_ble_eq_true rfl) dX5_comers_19 ⟨Nat.zero_le _, Nat.zero_le _⟩) (fun H locs hP hS => ?_)
    refine lv_topE (comeM (v.1 54) (nI jx) N) (come_cong (agr_symm hA) h8 N (Nat.le_refl N)) ?_
    exact t_P C rfl hP hS (ps_eq (u := v) hR (show comersM v (nI jx) = (comeM (v.1 54) (nI jx) N, v) from by simp only [comersM, nM_eq hM, cif_pos kb_1, tn_nI (show jx < 2 ^ 31 by omega)]) rfl (sam_rfl v)) (rsc_rfl v) dX5_comers_22
  · skip
    refine lv_if_ne (tgt := 14) C.1.1 C.1.2.1 dX5_comers_4 (by decide) (fun c_3 => absurd c_3 (by decide)) (fun _ => ?_)
    refine lv_aload_n C.1.1 C.1.2.1 dX5_comers_7 rfl (lv_at hl 0 rfl) ?_
    refine lv_ldc (v := (-1000001)) C.1.1 C.1.2.1 C.1.2.2.2.1 (C.1.2.2.2.2 _ (List.mem_of_getElem? (i := 1) rfl)) dX5_comers_8 ?_
    refine a_F hS (run_V C hP hS hl.1 0 5 (Nat.lt_of_lt_of_le (by decide) hn) rfl (by decide) rfl [.int (-1000001)] (kX5_finding l g n v 0 (by decide) (-1000001) rfl) gX5_comers_X5_finding rfl hdX5_finding rfl ⟨rfl, rfl⟩ ⟨Nat.le_of_ble_eq_true rfl, Nat.le_of_ble_eq_true rfl⟩ rfl [] rfl (Nat.le_of_ble_eq_true rfl) dX5_comers_10 ⟨Nat.zero_le _, Nat.zero_le _⟩) (fun H locs hP hS => ?_)
    have e54_4 : (fnC v 0).1 54 = v.1 54 := (upw_ne _ _ (by decide))
    exact t_P C rfl hP hS (ps_fd (f := fun u => comersM u x) hR (sam_rfl v) (by decide) (by simp only [comersM, nM_of e54_4 hM, e54_4, cif_neg b_1]) rfl) (rsc_trans (rsc_rfl v) (rsc_w _ _ (by decide))) dX5_comers_13

abbrev rmX5_crier : Room := { frames := 2, cells := 0, slots := 0, locals := 44 }
set_option maxHeartbeats 4000000 in
set_option maxRecDepth 100000 in
theorem kX5_crier (l : Launch) (g : GG) (n : Nat) (v : SV) (x : Int32) (N : Nat) (hR : Rl v N) : Met l yX5_crier wsX5_crier rmX5_crier (PW g n v [.ref (gA g 0), .int x]) (QP g n v (fun u => crierM u x)) 0 0 (wA g n) := by
  refine Met.begin RX5 rfl (by decide) rfl (Nat.le_of_ble_eq_true rfl) ?_
  intro p e s m args below meth c ls ha C hP hS hl
  have hn : 64 ≤ n := C.2.1.1.2.1
  have hi2 : ∀ w ∈ u_ws RX2 TX2 11, w ∈ wsX5_crier := by decide +kernel
  have hi5 : ∀ w ∈ u_ws RX5 TX5 8, w ∈ wsX5_crier := by decide +kernel
  have hl : lv_has ls 2 [(0, .ref (gA g 0)), (1, .int x)] := hl
  have hC := hR.1.1
  have hA := hR.1.2
  have h8 := hC.1
  have hD : okC (v.1 54) N := okC_agr (agr_symm hA) hC
  have hM := okC_M hD
  refine lv_iload_n C.1.1 C.1.2.1 dX5_crier_0 rfl (lv_at hl 1 rfl) ?_
  refine lv_iconst (v := 0) C.1.1 C.1.2.1 dX5_crier_1 rfl ?_
  refine lv_iconst (v := 2) C.1.1 C.1.2.1 dX5_crier_2 rfl ?_
  refine a_B hS (run_S C hP hS hl.1 [.int x, .int 0, .int 2] (kX5_isWithin l g n v x 0 2) gX5_crier_X5_isWithin hdX5_isWithin rfl ⟨rfl, rfl⟩ ⟨Nat.le_of_ble_eq_true rfl, Nat.le_of_ble_eq_true rfl⟩ rfl [] rfl (Nat.le_of_ble_eq_true rfl) dX5_crier_3 ⟨Nat.zero_le _, Nat.zero_le _⟩) (fun b_1 H locs hP hS => ?_) (fun b_1 H locs hP hS => ?_)
  · skip
    have b_1 := (in_iffC 3 (by decide) (by decide)).mp b_1
    have kb_1 := b_1
    obtain ⟨jx, hjx, rfl⟩ := b_1
    refine lv_if_ne (tgt := 16) C.1.1 C.1.2.1 dX5_crier_6 (by decide) (fun _ => ?_) (fun c_2 => absurd c_2 (by decide))
    refine lv_aload_n C.1.1 C.1.2.1 dX5_crier_16 rfl (lv_at hl 0 rfl) ?_
    refine r_get C hP 0 5 (Nat.lt_of_lt_of_le (by decide) hn) rfl (by decide) rfl hi5 0 (by decide) (List.mem_of_getElem? (i := 2) rfl) rfl (val := .ref (gA g 1)) rfl dX5_crier_17 ?_
    refine lv_iload_n C.1.1 C.1.2.1 dX5_crier_20 rfl (lv_at hl 1 rfl) ?_
    refine a_F hS (run_V C hP hS hl.1 1 2 (Nat.lt_of_lt_of_le (by decide) hn) rfl (by decide) rfl [.int (nI jx)] (kX2_ofCrier l g n v (nI jx) v 1 (stR v 1) N (Or.inl rfl) (scr_self (sam_rfl v).1) hC) gX5_crier_X2_ofCrier rfl hdX2_ofCrier rfl ⟨rfl, rfl⟩ ⟨Nat.le_of_ble_eq_true rfl, Nat.le_of_ble_eq_true rfl⟩ rfl [] rfl (Nat.le_of_ble_eq_true rfl) dX5_crier_21 ⟨Nat.zero_le _, Nat.zero_le _⟩) (fun H locs hP hS => ?_)
    refine lv_topE (v.1 54 (3 + jx)) ((ofc_at hjx).trans (agr_lo (agr_symm hA) (by omega))) ?_
    exact t_P C rfl hP hS (ps_eq (u := v) hR (show crierM v (nI jx) = (v.1 54 (3 + jx), v) from by simp only [crierM, nM_eq hM, cif_pos kb_1, tn_nI (show jx < 2 ^ 31 by omega)]) rfl (sam_rfl v)) (rsc_rfl v) dX5_crier_24
  · skip
    have b_1 := fun h => b_1 ((in_iffC 3 (by decide) (by decide)).mpr h)
    refine lv_if_ne (tgt := 16) C.1.1 C.1.2.1 dX5_crier_6 (by decide) (fun c_3 => absurd c_3 (by decide)) (fun _ => ?_)
    refine lv_aload_n C.1.1 C.1.2.1 dX5_crier_9 rfl (lv_at hl 0 rfl) ?_
    refine lv_ldc (v := (-1000001)) C.1.1 C.1.2.1 C.1.2.2.2.1 (C.1.2.2.2.2 _ (List.mem_of_getElem? (i := 1) rfl)) dX5_crier_10 ?_
    refine a_F hS (run_V C hP hS hl.1 0 5 (Nat.lt_of_lt_of_le (by decide) hn) rfl (by decide) rfl [.int (-1000001)] (kX5_finding l g n v 0 (by decide) (-1000001) rfl) gX5_crier_X5_finding rfl hdX5_finding rfl ⟨rfl, rfl⟩ ⟨Nat.le_of_ble_eq_true rfl, Nat.le_of_ble_eq_true rfl⟩ rfl [] rfl (Nat.le_of_ble_eq_true rfl) dX5_crier_12 ⟨Nat.zero_le _, Nat.zero_le _⟩) (fun H locs hP hS => ?_)
    have e54_4 : (fnC v 0).1 54 = v.1 54 := (upw_ne _ _ (by decide))
    exact t_P C rfl hP hS (ps_fd (f := fun u => crierM u x) hR (sam_rfl v) (by decide) (by simp only [crierM, nM_of e54_4 hM, e54_4, cif_neg b_1]) rfl) (rsc_trans (rsc_rfl v) (rsc_w _ _ (by decide))) dX5_crier_15

abbrev rmX5_set : Room := { frames := 2, cells := 0, slots := 0, locals := 44 }
set_option maxHeartbeats 4000000 in
set_option maxRecDepth 100000 in
theorem kX5_set (l : Launch) (g : GG) (n : Nat) (v : SV) (x y : Int32) (N : Nat) (hR : Rl v N) : Met l yX5_set wsX5_set rmX5_set (PW g n v [.ref (gA g 0), .int x, .int y]) (QP g n v (fun u => setM u x y)) 0 0 (wA g n) := by
  refine Met.begin RX5 rfl (by decide) rfl (Nat.le_of_ble_eq_true rfl) ?_
  intro p e s m args below meth c ls ha C hP hS hl
  have hn : 64 ≤ n := C.2.1.1.2.1
  have hi2 : ∀ w ∈ u_ws RX2 TX2 11, w ∈ wsX5_set := by decide +kernel
  have hi5 : ∀ w ∈ u_ws RX5 TX5 8, w ∈ wsX5_set := by decide +kernel
  have hl : lv_has ls 4 [(0, .ref (gA g 0)), (1, .int x), (2, .int y)] := hl
  have hC := hR.1.1
  have hA := hR.1.2
  have h8 := hC.1
  have hD : okC (v.1 54) N := okC_agr (agr_symm hA) hC
  have hM := okC_M hD
  refine lv_iload_n C.1.1 C.1.2.1 dX5_set_0 rfl (lv_at hl 1 rfl) ?_
  refine lv_iconst (v := 0) C.1.1 C.1.2.1 dX5_set_1 rfl ?_
  refine lv_iconst (v := 2) C.1.1 C.1.2.1 dX5_set_2 rfl ?_
  refine a_B hS (run_S C hP hS hl.1 [.int x, .int 0, .int 2] (kX5_isWithin l g n v x 0 2) gX5_set_X5_isWithin hdX5_isWithin rfl ⟨rfl, rfl⟩ ⟨Nat.le_of_ble_eq_true rfl, Nat.le_of_ble_eq_true rfl⟩ rfl [] rfl (Nat.le_of_ble_eq_true rfl) dX5_set_3 ⟨Nat.zero_le _, Nat.zero_le _⟩) (fun b_1 H locs hP hS => ?_) (fun b_1 H locs hP hS => ?_)
  · skip
    have b_1 := (in_iffC 3 (by decide) (by decide)).mp b_1
    have kb_1 := b_1
    obtain ⟨jx, hjx, rfl⟩ := b_1
    refine lv_if_eq (tgt := 22) C.1.1 C.1.2.1 dX5_set_6 (by decide) (fun c_2 => absurd c_2 (by decide)) (fun _ => ?_)
    refine lv_iload_n C.1.1 C.1.2.1 dX5_set_9 rfl (lv_at hl 2 rfl) ?_
    refine lv_iconst (v := 0) C.1.1 C.1.2.1 dX5_set_10 rfl ?_
    refine va_gets C.1.1 C.1.2.1 C.2.1.2.2.1.1.1 hS C.1.2.2.2.1 (C.1.2.2.2.2 _ (List.mem_of_getElem? (i := 1) rfl)) (fun _ h => h) dX5_set_11 ?_
    refine lv_iload_n C.1.1 C.1.2.1 dX5_set_14 rfl (lv_at hl 1 rfl) ?_
    refine r_tald C hS 3 (by decide) C.2.1.2.2.1.1.2 jx rfl (by omega) dX5_set_15 ?_
    refine a_B hS (run_S C hP hS hl.1 [.int y, .int 0, .int (tbC.getD jx 0)] (kX5_isWithin l g n v y 0 (tbC.getD jx 0)) gX5_set_X5_isWithin hdX5_isWithin rfl ⟨rfl, rfl⟩ ⟨Nat.le_of_ble_eq_true rfl, Nat.le_of_ble_eq_true rfl⟩ rfl [] rfl (Nat.le_of_ble_eq_true rfl) dX5_set_16 ⟨Nat.zero_le _, Nat.zero_le _⟩) (fun b_3 H locs hP hS => ?_) (fun b_3 H locs hP hS => ?_)
    · skip
      have kset := b_3
      obtain ⟨my, hmy, rfl⟩ := set_nat (N := N) hjx b_3
      refine lv_if_ne (tgt := 29) C.1.1 C.1.2.1 dX5_set_19 (by decide) (fun _ => ?_) (fun c_4 => absurd c_4 (by decide))
      refine lv_aload_n C.1.1 C.1.2.1 dX5_set_29 rfl (lv_at hl 0 rfl) ?_
      refine r_get C hP 0 5 (Nat.lt_of_lt_of_le (by decide) hn) rfl (by decide) rfl hi5 0 (by decide) (List.mem_of_getElem? (i := 3) rfl) rfl (val := .ref (gA g 1)) rfl dX5_set_30 ?_
      refine lv_iload_n C.1.1 C.1.2.1 dX5_set_33 rfl (lv_at hl 1 rfl) ?_
      refine a_F hS (run_V C hP hS hl.1 1 2 (Nat.lt_of_lt_of_le (by decide) hn) rfl (by decide) rfl [.int (nI jx)] (kX2_ofCrier l g n v (nI jx) v 1 (stR v 1) N (Or.inl rfl) (scr_self (sam_rfl v).1) hC) gX5_set_X2_ofCrier rfl hdX2_ofCrier rfl ⟨rfl, rfl⟩ ⟨Nat.le_of_ble_eq_true rfl, Nat.le_of_ble_eq_true rfl⟩ rfl [] rfl (Nat.le_of_ble_eq_true rfl) dX5_set_34 ⟨Nat.zero_le _, Nat.zero_le _⟩) (fun H locs hP hS => ?_)
      refine lv_topE (v.1 54 (3 + jx)) ((ofc_at hjx).trans (agr_lo (agr_symm hA) (by omega))) ?_
      refine lv_istore_n (lv' := [(3, .int (v.1 54 (3 + jx))), (0, .ref (gA g 0)), (1, .int (nI jx)), (2, .int (nI my))]) C.1.1 C.1.2.1 dX5_set_37 rfl hl (by decide) rfl (fun ls hl => ?_)
      refine lv_iload_n C.1.1 C.1.2.1 dX5_set_38 rfl (lv_at hl 2 rfl) ?_
      refine lv_if_ne (tgt := 53) C.1.1 C.1.2.1 dX5_set_39 (by decide) (fun c_5 => ?_) (fun c_5 => ?_)
      · rw [show (nI jx = 0) = (jx = 0) from propext (nI_eq (a := jx) (b := 0) (by omega) (by omega))] at c_5
        refine lv_iload_n C.1.1 C.1.2.1 dX5_set_53 rfl (lv_at hl 2 rfl) ?_
        refine lv_iconst (v := 1) C.1.1 C.1.2.1 dX5_set_54 rfl ?_
        refine lv_icmp_ne (tgt := 69) C.1.1 C.1.2.1 dX5_set_55 (by decide) (fun c_6 => ?_) (fun c_6 => ?_)
        · rw [show (nI jx = 1) = (jx = 1) from propext (nI_eq (a := jx) (b := 1) (by omega) (by omega))] at c_6
          refine lv_aload_n C.1.1 C.1.2.1 dX5_set_69 rfl (lv_at hl 1 rfl) ?_
          refine r_get C hP 0 5 (Nat.lt_of_lt_of_le (by decide) hn) rfl (by decide) rfl hi5 0 (by decide) (List.mem_of_getElem? (i := 3) rfl) rfl (val := .ref (gA g 1)) rfl dX5_set_70 ?_
          refine lv_iload_n C.1.1 C.1.2.1 dX5_set_73 rfl (lv_at hl 3 rfl) ?_
          refine r_put C hP hS 1 2 (Nat.lt_of_lt_of_le (by decide) hn) rfl (by decide) rfl hi2 tyX2 tyX2_ok nmX2 2 (by decide) (List.mem_of_getElem? (i := 6) rfl) rfl rfl rfl rfl rfl (Nat.le_of_ble_eq_true rfl) dX5_set_74 (fun H locs hP hS => ?_)
          rw [show up v 1 2 (nI my) = stW v 1 (upd (stR v 1) 5 (nI my)) from st_up0 (i := 5) (sl_k rfl) (by decide)] at hP
          refine lv_iload_n C.1.1 C.1.2.1 dX5_set_77 rfl (lv_at hl 0 rfl) ?_
          have ej : jx = 2 := by omega
          have e54_8 : (stW v 1 (upd (stR v 1) 5 (nI my))).1 54 = v.1 54 := (st_far (by decide))
          exact t_P C rfl hP hS (ps_to (show setM (stW v 1 (upd (stR v 1) 5 (nI my))) (nI jx) (nI my) = (v.1 54 (3 + jx), upw (stW v 1 (upd (stR v 1) 5 (nI my))) 54 (upd (v.1 54) (3 + jx) (nI my))) from by simp only [setM, nM_of e54_8 hM, e54_8, cif_pos kb_1, tn_nI (show jx < 2 ^ 31 by omega), cif_pos ((set_iff hjx).mpr kset), up]) rfl (Rl_row hR (okC_upd hC (by decide) (Or.inr ⟨my, by rw [ej] at hmy; exact hmy, rfl⟩)) (by rw [ej]; exact agr_upd hA rfl))) (rsc_trans (rsc_rfl v) (rsc_st _ _ (by decide))) dX5_set_78
        · rw [show (nI jx = 1) = (jx = 1) from propext (nI_eq (a := jx) (b := 1) (by omega) (by omega))] at c_6
          refine lv_aload_n C.1.1 C.1.2.1 dX5_set_58 rfl (lv_at hl 1 rfl) ?_
          refine r_get C hP 0 5 (Nat.lt_of_lt_of_le (by decide) hn) rfl (by decide) rfl hi5 0 (by decide) (List.mem_of_getElem? (i := 3) rfl) rfl (val := .ref (gA g 1)) rfl dX5_set_59 ?_
          refine lv_iload_n C.1.1 C.1.2.1 dX5_set_62 rfl (lv_at hl 3 rfl) ?_
          refine r_put C hP hS 1 2 (Nat.lt_of_lt_of_le (by decide) hn) rfl (by decide) rfl hi2 tyX2 tyX2_ok nmX2 1 (by decide) (List.mem_of_getElem? (i := 5) rfl) rfl rfl rfl rfl rfl (Nat.le_of_ble_eq_true rfl) dX5_set_63 (fun H locs hP hS => ?_)
          rw [show up v 1 1 (nI my) = stW v 1 (upd (stR v 1) 4 (nI my)) from st_up0 (i := 4) (sl_k rfl) (by decide)] at hP
          refine lv_goto (tgt := 77) C.1.1 C.1.2.1 dX5_set_66 (by decide) ?_
          refine lv_iload_n C.1.1 C.1.2.1 dX5_set_77 rfl (lv_at hl 0 rfl) ?_
          have ej : jx = 1 := by omega
          have e54_10 : (stW v 1 (upd (stR v 1) 4 (nI my))).1 54 = v.1 54 := (st_far (by decide))
          exact t_P C rfl hP hS (ps_to (show setM (stW v 1 (upd (stR v 1) 4 (nI my))) (nI jx) (nI my) = (v.1 54 (3 + jx), upw (stW v 1 (upd (stR v 1) 4 (nI my))) 54 (upd (v.1 54) (3 + jx) (nI my))) from by simp only [setM, nM_of e54_10 hM, e54_10, cif_pos kb_1, tn_nI (show jx < 2 ^ 31 by omega), cif_pos ((set_iff hjx).mpr kset), up]) rfl (Rl_row hR (okC_upd hC (by decide) (Or.inr ⟨my, by rw [ej] at hmy; exact hmy, rfl⟩)) (by rw [ej]; exact agr_upd hA rfl))) (rsc_trans (rsc_rfl v) (rsc_st _ _ (by decide))) dX5_set_78
      · rw [show (nI jx = 0) = (jx = 0) from propext (nI_eq (a := jx) (b := 0) (by omega) (by omega))] at c_5
        refine lv_aload_n C.1.1 C.1.2.1 dX5_set_42 rfl (lv_at hl 1 rfl) ?_
        refine r_get C hP 0 5 (Nat.lt_of_lt_of_le (by decide) hn) rfl (by decide) rfl hi5 0 (by decide) (List.mem_of_getElem? (i := 3) rfl) rfl (val := .ref (gA g 1)) rfl dX5_set_43 ?_
        refine lv_iload_n C.1.1 C.1.2.1 dX5_set_46 rfl (lv_at hl 3 rfl) ?_
        refine r_put C hP hS 1 2 (Nat.lt_of_lt_of_le (by decide) hn) rfl (by decide) rfl hi2 tyX2 tyX2_ok nmX2 0 (by decide) (List.mem_of_getElem? (i := 4) rfl) rfl rfl rfl rfl rfl (Nat.le_of_ble_eq_true rfl) dX5_set_47 (fun H locs hP hS => ?_)
        rw [show up v 1 0 (nI my) = stW v 1 (upd (stR v 1) 3 (nI my)) from st_up0 (i := 3) (sl_k rfl) (by decide)] at hP
        refine lv_goto (tgt := 77) C.1.1 C.1.2.1 dX5_set_50 (by decide) ?_
        refine lv_iload_n C.1.1 C.1.2.1 dX5_set_77 rfl (lv_at hl 0 rfl) ?_
        have ej : jx = 0 := by omega
        have e54_12 : (stW v 1 (upd (stR v 1) 3 (nI my))).1 54 = v.1 54 := (st_far (by decide))
        exact t_P C rfl hP hS (ps_to (show setM (stW v 1 (upd (stR v 1) 3 (nI my))) (nI jx) (nI my) = (v.1 54 (3 + jx), upw (stW v 1 (upd (stR v 1) 3 (nI my))) 54 (upd (v.1 54) (3 + jx) (nI my))) from by simp only [setM, nM_of e54_12 hM, e54_12, cif_pos kb_1, tn_nI (show jx < 2 ^ 31 by omega), cif_pos ((set_iff hjx).mpr kset), up]) rfl (Rl_row hR (okC_upd hC (by decide) (Or.inr ⟨my, by rw [ej] at hmy; exact hmy, rfl⟩)) (by rw [ej]; exact agr_upd hA rfl))) (rsc_trans (rsc_rfl v) (rsc_st _ _ (by decide))) dX5_set_78
    · skip
      refine lv_if_ne (tgt := 29) C.1.1 C.1.2.1 dX5_set_19 (by decide) (fun c_13 => absurd c_13 (by decide)) (fun _ => ?_)
      refine lv_aload_n C.1.1 C.1.2.1 dX5_set_22 rfl (lv_at hl 0 rfl) ?_
      refine lv_ldc (v := (-1000001)) C.1.1 C.1.2.1 C.1.2.2.2.1 (C.1.2.2.2.2 _ (List.mem_of_getElem? (i := 2) rfl)) dX5_set_23 ?_
      refine a_F hS (run_V C hP hS hl.1 0 5 (Nat.lt_of_lt_of_le (by decide) hn) rfl (by decide) rfl [.int (-1000001)] (kX5_finding l g n v 0 (by decide) (-1000001) rfl) gX5_set_X5_finding rfl hdX5_finding rfl ⟨rfl, rfl⟩ ⟨Nat.le_of_ble_eq_true rfl, Nat.le_of_ble_eq_true rfl⟩ rfl [] rfl (Nat.le_of_ble_eq_true rfl) dX5_set_25 ⟨Nat.zero_le _, Nat.zero_le _⟩) (fun H locs hP hS => ?_)
      have e54_14 : (fnC v 0).1 54 = v.1 54 := (upw_ne _ _ (by decide))
      exact t_P C rfl hP hS (ps_fd (f := fun u => setM u (nI jx) y) hR (sam_rfl v) (by decide) (by simp only [setM, nM_of e54_14 hM, e54_14, cif_pos kb_1, tn_nI (show jx < 2 ^ 31 by omega), cif_neg (fun h => b_3 ((set_iff hjx).mp h))]) rfl) (rsc_trans (rsc_rfl v) (rsc_w _ _ (by decide))) dX5_set_28
  · skip
    have b_1 := fun h => b_1 ((in_iffC 3 (by decide) (by decide)).mpr h)
    refine lv_if_eq (tgt := 22) C.1.1 C.1.2.1 dX5_set_6 (by decide) (fun _ => ?_) (fun c_15 => absurd c_15 (by decide))
    refine lv_aload_n C.1.1 C.1.2.1 dX5_set_22 rfl (lv_at hl 0 rfl) ?_
    refine lv_ldc (v := (-1000001)) C.1.1 C.1.2.1 C.1.2.2.2.1 (C.1.2.2.2.2 _ (List.mem_of_getElem? (i := 2) rfl)) dX5_set_23 ?_
    refine a_F hS (run_V C hP hS hl.1 0 5 (Nat.lt_of_lt_of_le (by decide) hn) rfl (by decide) rfl [.int (-1000001)] (kX5_finding l g n v 0 (by decide) (-1000001) rfl) gX5_set_X5_finding rfl hdX5_finding rfl ⟨rfl, rfl⟩ ⟨Nat.le_of_ble_eq_true rfl, Nat.le_of_ble_eq_true rfl⟩ rfl [] rfl (Nat.le_of_ble_eq_true rfl) dX5_set_25 ⟨Nat.zero_le _, Nat.zero_le _⟩) (fun H locs hP hS => ?_)
    have e54_16 : (fnC v 0).1 54 = v.1 54 := (upw_ne _ _ (by decide))
    exact t_P C rfl hP hS (ps_fd (f := fun u => setM u x y) hR (sam_rfl v) (by decide) (by simp only [setM, nM_of e54_16 hM, e54_16, cif_neg (fun h => b_1 (setP_x h))]) rfl) (rsc_trans (rsc_rfl v) (rsc_w _ _ (by decide))) dX5_set_28

abbrev rmX5_resident : Room := { frames := 2, cells := 0, slots := 0, locals := 44 }
set_option maxHeartbeats 4000000 in
set_option maxRecDepth 100000 in
theorem kX5_resident (l : Launch) (g : GG) (n : Nat) (v : SV) (x y : Int32) (N : Nat) (hR : Rl v N) : Met l yX5_resident wsX5_resident rmX5_resident (PW g n v [.ref (gA g 0), .int x, .int y]) (QP g n v (fun u => residentM u x y)) 0 0 (wA g n) := by
  refine Met.begin RX5 rfl (by decide) rfl (Nat.le_of_ble_eq_true rfl) ?_
  intro p e s m args below meth c ls ha C hP hS hl
  have hn : 64 ≤ n := C.2.1.1.2.1
  have hi0 : ∀ w ∈ u_ws RX0 TX0 6, w ∈ wsX5_resident := by decide +kernel
  have hi2 : ∀ w ∈ u_ws RX2 TX2 11, w ∈ wsX5_resident := by decide +kernel
  have hi5 : ∀ w ∈ u_ws RX5 TX5 8, w ∈ wsX5_resident := by decide +kernel
  have hl : lv_has ls 3 [(0, .ref (gA g 0)), (1, .int x), (2, .int y)] := hl
  have hC := hR.1.1
  have hA := hR.1.2
  have h8 := hC.1
  have hD : okC (v.1 54) N := okC_agr (agr_symm hA) hC
  have hM := okC_M hD
  refine lv_iload_n C.1.1 C.1.2.1 dX5_resident_0 rfl (lv_at hl 1 rfl) ?_
  refine a_B hS (run_S C hP hS hl.1 [.int x] (kX5_isKind l g n v x) gX5_resident_X5_isKind hdX5_isKind rfl ⟨rfl, rfl⟩ ⟨Nat.le_of_ble_eq_true rfl, Nat.le_of_ble_eq_true rfl⟩ rfl [] rfl (Nat.le_of_ble_eq_true rfl) dX5_resident_1 ⟨Nat.zero_le _, Nat.zero_le _⟩) (fun b_1 H locs hP hS => ?_) (fun b_1 H locs hP hS => ?_)
  · skip
    have kb_1 := b_1
    obtain ⟨jx, hjx, rfl⟩ := b_1
    refine lv_if_eq (tgt := 17) C.1.1 C.1.2.1 dX5_resident_4 (by decide) (fun c_2 => absurd c_2 (by decide)) (fun _ => ?_)
    refine lv_iload_n C.1.1 C.1.2.1 dX5_resident_7 rfl (lv_at hl 2 rfl) ?_
    refine lv_iconst (v := 0) C.1.1 C.1.2.1 dX5_resident_8 rfl ?_
    refine lv_bipush (v := 15) C.1.1 C.1.2.1 dX5_resident_9 rfl ?_
    refine a_B hS (run_S C hP hS hl.1 [.int y, .int 0, .int 15] (kX5_isWithin l g n v y 0 15) gX5_resident_X5_isWithin hdX5_isWithin rfl ⟨rfl, rfl⟩ ⟨Nat.le_of_ble_eq_true rfl, Nat.le_of_ble_eq_true rfl⟩ rfl [] rfl (Nat.le_of_ble_eq_true rfl) dX5_resident_11 ⟨Nat.zero_le _, Nat.zero_le _⟩) (fun b_3 H locs hP hS => ?_) (fun b_3 H locs hP hS => ?_)
    · skip
      have b_3 := (in_iffC 16 (by decide) (by decide)).mp b_3
      have kb_3 := b_3
      obtain ⟨jy, hjy, rfl⟩ := b_3
      refine lv_if_ne (tgt := 24) C.1.1 C.1.2.1 dX5_resident_14 (by decide) (fun _ => ?_) (fun c_4 => absurd c_4 (by decide))
      refine lv_aload_n C.1.1 C.1.2.1 dX5_resident_24 rfl (lv_at hl 0 rfl) ?_
      refine r_get C hP 0 5 (Nat.lt_of_lt_of_le (by decide) hn) rfl (by decide) rfl hi5 0 (by decide) (List.mem_of_getElem? (i := 2) rfl) rfl (val := .ref (gA g 1)) rfl dX5_resident_25 ?_
      refine a_B hS (run_V C hP hS hl.1 1 2 (Nat.lt_of_lt_of_le (by decide) hn) rfl (by decide) rfl [] (kX2_isFull l g n v v 1 (stR v 1) N (Or.inl rfl) (scr_self (sam_rfl v).1) hC) gX5_resident_X2_isFull rfl hdX2_isFull rfl ⟨rfl, rfl⟩ ⟨Nat.le_of_ble_eq_true rfl, Nat.le_of_ble_eq_true rfl⟩ rfl [] rfl (Nat.le_of_ble_eq_true rfl) dX5_resident_28 ⟨Nat.zero_le _, Nat.zero_le _⟩) (fun b_5 H locs hP hS => ?_) (fun b_5 H locs hP hS => ?_)
      · skip
        refine lv_if_eq (tgt := 41) C.1.1 C.1.2.1 dX5_resident_31 (by decide) (fun c_6 => absurd c_6 (by decide)) (fun _ => ?_)
        refine lv_aload_n C.1.1 C.1.2.1 dX5_resident_34 rfl (lv_at hl 0 rfl) ?_
        refine lv_ldc (v := (-1000002)) C.1.1 C.1.2.1 C.1.2.2.2.1 (C.1.2.2.2.2 _ (List.mem_of_getElem? (i := 3) rfl)) dX5_resident_35 ?_
        refine a_F hS (run_V C hP hS hl.1 0 5 (Nat.lt_of_lt_of_le (by decide) hn) rfl (by decide) rfl [.int (-1000002)] (kX5_finding l g n v 1 (by decide) (-1000002) rfl) gX5_resident_X5_finding rfl hdX5_finding rfl ⟨rfl, rfl⟩ ⟨Nat.le_of_ble_eq_true rfl, Nat.le_of_ble_eq_true rfl⟩ rfl [] rfl (Nat.le_of_ble_eq_true rfl) dX5_resident_37 ⟨Nat.zero_le _, Nat.zero_le _⟩) (fun H locs hP hS => ?_)
        have e54_7 : (fnC v 1).1 54 = v.1 54 := (upw_ne _ _ (by decide))
        exact t_P C rfl hP hS (ps_fd (f := fun u => residentM u (nI jx) (nI jy)) hR (sam_rfl v) (by decide) (by simp only [residentM, nM_of e54_7 hM, e54_7, cif_pos kb_1, cif_pos kb_3, if_pos b_5, tn_nI (show jx < 2 ^ 31 by omega), tn_nI (show jy < 2 ^ 31 by omega)]) rfl) (rsc_trans (rsc_rfl v) (rsc_w _ _ (by decide))) dX5_resident_40
      · skip
        refine lv_if_eq (tgt := 41) C.1.1 C.1.2.1 dX5_resident_31 (by decide) (fun _ => ?_) (fun c_8 => absurd c_8 (by decide))
        refine lv_aload_n C.1.1 C.1.2.1 dX5_resident_41 rfl (lv_at hl 0 rfl) ?_
        refine r_get C hP 0 5 (Nat.lt_of_lt_of_le (by decide) hn) rfl (by decide) rfl hi5 0 (by decide) (List.mem_of_getElem? (i := 2) rfl) rfl (val := .ref (gA g 1)) rfl dX5_resident_42 ?_
        refine lv_iload_n C.1.1 C.1.2.1 dX5_resident_45 rfl (lv_at hl 1 rfl) ?_
        refine lv_iload_n C.1.1 C.1.2.1 dX5_resident_46 rfl (lv_at hl 2 rfl) ?_
        refine a_F hS (run_V C hP hS hl.1 1 2 (Nat.lt_of_lt_of_le (by decide) hn) rfl (by decide) rfl [.int (nI jx), .int (nI jy)] (kX2_moveIn l g n v (nI jx) (nI jy) v 1 (stR v 1) N (Or.inl rfl) (scr_self (sam_rfl v).1) hC) gX5_resident_X2_moveIn rfl hdX2_moveIn rfl ⟨rfl, rfl⟩ ⟨Nat.le_of_ble_eq_true rfl, Nat.le_of_ble_eq_true rfl⟩ rfl [] rfl (Nat.le_of_ble_eq_true rfl) dX5_resident_47 ⟨Nat.zero_le _, Nat.zero_le _⟩) (fun H locs hP hS => ?_)
        rw [show stW v 1 (if N = 8 then (stR v 1) else comesM (stR v 1) N (nI jx) (nI jy)) = stW v 1 (comesM (stR v 1) N (nI jx) (nI jy)) from by rw [if_neg b_5]] at hP
        have e54_9 : (stW v 1 (comesM (stR v 1) N (nI jx) (nI jy))).1 54 = v.1 54 := (st_far (by decide))
        exact t_P C rfl hP hS (ps_to (show residentM (stW v 1 (comesM (stR v 1) N (nI jx) (nI jy))) (nI jx) (nI jy) = (v.1 54 0, upw (stW v 1 (comesM (stR v 1) N (nI jx) (nI jy))) 54 (comesM (v.1 54) N (nI jx) (nI jy))) from by simp only [residentM, nM_of e54_9 hM, e54_9, cif_pos kb_1, cif_pos kb_3, if_neg b_5, tn_nI (show jx < 2 ^ 31 by omega), tn_nI (show jy < 2 ^ 31 by omega), up]) ((if_neg b_5).trans hD.2.1.symm) (Rl_row hR (okC_comes hC (by omega) hjx hjy) (agr_comes hA (by omega)))) (rsc_trans (rsc_rfl v) (rsc_st _ _ (by decide))) dX5_resident_50
    · skip
      have b_3 := fun h => b_3 ((in_iffC 16 (by decide) (by decide)).mpr h)
      refine lv_if_ne (tgt := 24) C.1.1 C.1.2.1 dX5_resident_14 (by decide) (fun c_10 => absurd c_10 (by decide)) (fun _ => ?_)
      refine lv_aload_n C.1.1 C.1.2.1 dX5_resident_17 rfl (lv_at hl 0 rfl) ?_
      refine lv_ldc (v := (-1000001)) C.1.1 C.1.2.1 C.1.2.2.2.1 (C.1.2.2.2.2 _ (List.mem_of_getElem? (i := 1) rfl)) dX5_resident_18 ?_
      refine a_F hS (run_V C hP hS hl.1 0 5 (Nat.lt_of_lt_of_le (by decide) hn) rfl (by decide) rfl [.int (-1000001)] (kX5_finding l g n v 0 (by decide) (-1000001) rfl) gX5_resident_X5_finding rfl hdX5_finding rfl ⟨rfl, rfl⟩ ⟨Nat.le_of_ble_eq_true rfl, Nat.le_of_ble_eq_true rfl⟩ rfl [] rfl (Nat.le_of_ble_eq_true rfl) dX5_resident_20 ⟨Nat.zero_le _, Nat.zero_le _⟩) (fun H locs hP hS => ?_)
      have e54_11 : (fnC v 0).1 54 = v.1 54 := (upw_ne _ _ (by decide))
      exact t_P C rfl hP hS (ps_fd (f := fun u => residentM u (nI jx) y) hR (sam_rfl v) (by decide) (by simp only [residentM, nM_of e54_11 hM, e54_11, cif_pos kb_1, cif_neg b_3, tn_nI (show jx < 2 ^ 31 by omega)]) rfl) (rsc_trans (rsc_rfl v) (rsc_w _ _ (by decide))) dX5_resident_23
  · skip
    refine lv_if_eq (tgt := 17) C.1.1 C.1.2.1 dX5_resident_4 (by decide) (fun _ => ?_) (fun c_12 => absurd c_12 (by decide))
    refine lv_aload_n C.1.1 C.1.2.1 dX5_resident_17 rfl (lv_at hl 0 rfl) ?_
    refine lv_ldc (v := (-1000001)) C.1.1 C.1.2.1 C.1.2.2.2.1 (C.1.2.2.2.2 _ (List.mem_of_getElem? (i := 1) rfl)) dX5_resident_18 ?_
    refine a_F hS (run_V C hP hS hl.1 0 5 (Nat.lt_of_lt_of_le (by decide) hn) rfl (by decide) rfl [.int (-1000001)] (kX5_finding l g n v 0 (by decide) (-1000001) rfl) gX5_resident_X5_finding rfl hdX5_finding rfl ⟨rfl, rfl⟩ ⟨Nat.le_of_ble_eq_true rfl, Nat.le_of_ble_eq_true rfl⟩ rfl [] rfl (Nat.le_of_ble_eq_true rfl) dX5_resident_20 ⟨Nat.zero_le _, Nat.zero_le _⟩) (fun H locs hP hS => ?_)
    have e54_13 : (fnC v 0).1 54 = v.1 54 := (upw_ne _ _ (by decide))
    exact t_P C rfl hP hS (ps_fd (f := fun u => residentM u x y) hR (sam_rfl v) (by decide) (by simp only [residentM, nM_of e54_13 hM, e54_13, cif_neg b_1]) rfl) (rsc_trans (rsc_rfl v) (rsc_w _ _ (by decide))) dX5_resident_23

abbrev rmX5_of : Room := { frames := 4, cells := 0, slots := 0, locals := 90 }
set_option maxHeartbeats 4000000 in
set_option maxRecDepth 100000 in
theorem kX5_of (l : Launch) (g : GG) (n : Nat) (v : SV) (x y : Int32) (N : Nat) (hR : Rl v N) : Met l yX5_of wsX5_of rmX5_of (PW g n v [.ref (gA g 0), .int x, .int y]) (QP g n v (fun u => ofM u x y)) 0 0 (wA g n) := by
  refine Met.begin RX5 rfl (by decide) rfl (Nat.le_of_ble_eq_true rfl) ?_
  intro p e s m args below meth c ls ha C hP hS hl
  have hn : 64 ≤ n := C.2.1.1.2.1
  have hi0 : ∀ w ∈ u_ws RX0 TX0 6, w ∈ wsX5_of := by decide +kernel
  have hi2 : ∀ w ∈ u_ws RX2 TX2 11, w ∈ wsX5_of := by decide +kernel
  have hi5 : ∀ w ∈ u_ws RX5 TX5 8, w ∈ wsX5_of := by decide +kernel
  have hl : lv_has ls 3 [(0, .ref (gA g 0)), (1, .int x), (2, .int y)] := hl
  have hC := hR.1.1
  have hA := hR.1.2
  have h8 := hC.1
  have hD : okC (v.1 54) N := okC_agr (agr_symm hA) hC
  have hM := okC_M hD
  refine lv_aload_n C.1.1 C.1.2.1 dX5_of_0 rfl (lv_at hl 0 rfl) ?_
  refine r_get C hP 0 5 (Nat.lt_of_lt_of_le (by decide) hn) rfl (by decide) rfl hi5 0 (by decide) (List.mem_of_getElem? (i := 1) rfl) rfl (val := .ref (gA g 1)) rfl dX5_of_1 ?_
  refine lv_iload_n C.1.1 C.1.2.1 dX5_of_4 rfl (lv_at hl 1 rfl) ?_
  refine a_B hS (run_V C hP hS hl.1 1 2 (Nat.lt_of_lt_of_le (by decide) hn) rfl (by decide) rfl [.int x] (kX2_has l g n v x v 1 (stR v 1) N (Or.inl rfl) (scr_self (sam_rfl v).1) hC) gX5_of_X2_has rfl hdX2_has rfl ⟨rfl, rfl⟩ ⟨Nat.le_of_ble_eq_true rfl, Nat.le_of_ble_eq_true rfl⟩ rfl [] rfl (Nat.le_of_ble_eq_true rfl) dX5_of_5 ⟨Nat.zero_le _, Nat.zero_le _⟩) (fun b_1 H locs hP hS => ?_) (fun b_1 H locs hP hS => ?_)
  · skip
    have kb_1 := b_1
    obtain ⟨jx, hjx, rfl⟩ := b_1
    refine lv_if_eq (tgt := 21) C.1.1 C.1.2.1 dX5_of_8 (by decide) (fun c_2 => absurd c_2 (by decide)) (fun _ => ?_)
    refine lv_iload_n C.1.1 C.1.2.1 dX5_of_11 rfl (lv_at hl 2 rfl) ?_
    refine lv_iconst (v := 0) C.1.1 C.1.2.1 dX5_of_12 rfl ?_
    refine lv_bipush (v := 10) C.1.1 C.1.2.1 dX5_of_13 rfl ?_
    refine a_B hS (run_S C hP hS hl.1 [.int y, .int 0, .int 10] (kX5_isWithin l g n v y 0 10) gX5_of_X5_isWithin hdX5_isWithin rfl ⟨rfl, rfl⟩ ⟨Nat.le_of_ble_eq_true rfl, Nat.le_of_ble_eq_true rfl⟩ rfl [] rfl (Nat.le_of_ble_eq_true rfl) dX5_of_15 ⟨Nat.zero_le _, Nat.zero_le _⟩) (fun b_3 H locs hP hS => ?_) (fun b_3 H locs hP hS => ?_)
    · skip
      have b_3 := (in_iffC 11 (by decide) (by decide)).mp b_3
      have kb_3 := b_3
      obtain ⟨jy, hjy, rfl⟩ := b_3
      refine lv_if_ne (tgt := 28) C.1.1 C.1.2.1 dX5_of_18 (by decide) (fun _ => ?_) (fun c_4 => absurd c_4 (by decide))
      refine lv_aload_n C.1.1 C.1.2.1 dX5_of_28 rfl (lv_at hl 0 rfl) ?_
      refine r_get C hP 0 5 (Nat.lt_of_lt_of_le (by decide) hn) rfl (by decide) rfl hi5 0 (by decide) (List.mem_of_getElem? (i := 1) rfl) rfl (val := .ref (gA g 1)) rfl dX5_of_29 ?_
      refine lv_iload_n C.1.1 C.1.2.1 dX5_of_32 rfl (lv_at hl 1 rfl) ?_
      refine lv_iload_n C.1.1 C.1.2.1 dX5_of_33 rfl (lv_at hl 2 rfl) ?_
      refine a_F hS (run_V C hP hS hl.1 1 2 (Nat.lt_of_lt_of_le (by decide) hn) rfl (by decide) rfl [.int (nI jx), .int (nI jy)] (kX2_tell l g n v jx (nI jy) v 1 (stR v 1) N (Or.inl rfl) (scr_self (sam_rfl v).1) hC hjx) gX5_of_X2_tell rfl hdX2_tell rfl ⟨rfl, rfl⟩ ⟨Nat.le_of_ble_eq_true rfl, Nat.le_of_ble_eq_true rfl⟩ rfl [] rfl (Nat.le_of_ble_eq_true rfl) dX5_of_34 ⟨Nat.zero_le _, Nat.zero_le _⟩) (fun H locs hP hS => ?_)
      refine lv_topE (tellF (rowM (v.1 54) jx) (nI jy) (v.1 54 3) (v.1 54 5)) (tell_agr (agr_symm hA) hjx h8) ?_
      exact t_P C rfl hP hS (ps_eq (u := v) hR (show ofM v (nI jx) (nI jy) = (tellF (rowM (v.1 54) jx) (nI jy) (v.1 54 3) (v.1 54 5), v) from by simp only [ofM, nM_eq hM, cif_pos kb_1, cif_pos kb_3, tn_nI (show jx < 2 ^ 31 by omega), tn_nI (show jy < 2 ^ 31 by omega)]) rfl (sam_rfl v)) (rsc_rfl v) dX5_of_37
    · skip
      have b_3 := fun h => b_3 ((in_iffC 11 (by decide) (by decide)).mpr h)
      refine lv_if_ne (tgt := 28) C.1.1 C.1.2.1 dX5_of_18 (by decide) (fun c_5 => absurd c_5 (by decide)) (fun _ => ?_)
      refine lv_aload_n C.1.1 C.1.2.1 dX5_of_21 rfl (lv_at hl 0 rfl) ?_
      refine lv_ldc (v := (-1000001)) C.1.1 C.1.2.1 C.1.2.2.2.1 (C.1.2.2.2.2 _ (List.mem_of_getElem? (i := 2) rfl)) dX5_of_22 ?_
      refine a_F hS (run_V C hP hS hl.1 0 5 (Nat.lt_of_lt_of_le (by decide) hn) rfl (by decide) rfl [.int (-1000001)] (kX5_finding l g n v 0 (by decide) (-1000001) rfl) gX5_of_X5_finding rfl hdX5_finding rfl ⟨rfl, rfl⟩ ⟨Nat.le_of_ble_eq_true rfl, Nat.le_of_ble_eq_true rfl⟩ rfl [] rfl (Nat.le_of_ble_eq_true rfl) dX5_of_24 ⟨Nat.zero_le _, Nat.zero_le _⟩) (fun H locs hP hS => ?_)
      have e54_6 : (fnC v 0).1 54 = v.1 54 := (upw_ne _ _ (by decide))
      exact t_P C rfl hP hS (ps_fd (f := fun u => ofM u (nI jx) y) hR (sam_rfl v) (by decide) (by simp only [ofM, nM_of e54_6 hM, e54_6, cif_pos kb_1, cif_neg b_3, tn_nI (show jx < 2 ^ 31 by omega)]) rfl) (rsc_trans (rsc_rfl v) (rsc_w _ _ (by decide))) dX5_of_27
  · skip
    refine lv_if_eq (tgt := 21) C.1.1 C.1.2.1 dX5_of_8 (by decide) (fun _ => ?_) (fun c_7 => absurd c_7 (by decide))
    refine lv_aload_n C.1.1 C.1.2.1 dX5_of_21 rfl (lv_at hl 0 rfl) ?_
    refine lv_ldc (v := (-1000001)) C.1.1 C.1.2.1 C.1.2.2.2.1 (C.1.2.2.2.2 _ (List.mem_of_getElem? (i := 2) rfl)) dX5_of_22 ?_
    refine a_F hS (run_V C hP hS hl.1 0 5 (Nat.lt_of_lt_of_le (by decide) hn) rfl (by decide) rfl [.int (-1000001)] (kX5_finding l g n v 0 (by decide) (-1000001) rfl) gX5_of_X5_finding rfl hdX5_finding rfl ⟨rfl, rfl⟩ ⟨Nat.le_of_ble_eq_true rfl, Nat.le_of_ble_eq_true rfl⟩ rfl [] rfl (Nat.le_of_ble_eq_true rfl) dX5_of_24 ⟨Nat.zero_le _, Nat.zero_le _⟩) (fun H locs hP hS => ?_)
    have e54_8 : (fnC v 0).1 54 = v.1 54 := (upw_ne _ _ (by decide))
    exact t_P C rfl hP hS (ps_fd (f := fun u => ofM u x y) hR (sam_rfl v) (by decide) (by simp only [ofM, nM_of e54_8 hM, e54_8, cif_neg b_1]) rfl) (rsc_trans (rsc_rfl v) (rsc_w _ _ (by decide))) dX5_of_27

abbrev rmX5_change : Room := { frames := 4, cells := 0, slots := 0, locals := 90 }
set_option maxHeartbeats 4000000 in
set_option maxRecDepth 100000 in
theorem kX5_change (l : Launch) (g : GG) (n : Nat) (v : SV) (x y z : Int32) (N : Nat) (hR : Rl v N) : Met l yX5_change wsX5_change rmX5_change (PW g n v [.ref (gA g 0), .int x, .int y, .int z]) (QP g n v (fun u => changeM u x y z)) 0 0 (wA g n) := by
  refine Met.begin RX5 rfl (by decide) rfl (Nat.le_of_ble_eq_true rfl) ?_
  intro p e s m args below meth c ls ha C hP hS hl
  have hn : 64 ≤ n := C.2.1.1.2.1
  have hi0 : ∀ w ∈ u_ws RX0 TX0 6, w ∈ wsX5_change := by decide +kernel
  have hi2 : ∀ w ∈ u_ws RX2 TX2 11, w ∈ wsX5_change := by decide +kernel
  have hi5 : ∀ w ∈ u_ws RX5 TX5 8, w ∈ wsX5_change := by decide +kernel
  have hl : lv_has ls 5 [(0, .ref (gA g 0)), (1, .int x), (2, .int y), (3, .int z)] := hl
  have hC := hR.1.1
  have hA := hR.1.2
  have h8 := hC.1
  have hD : okC (v.1 54) N := okC_agr (agr_symm hA) hC
  have hM := okC_M hD
  refine lv_aload_n C.1.1 C.1.2.1 dX5_change_0 rfl (lv_at hl 0 rfl) ?_
  refine r_get C hP 0 5 (Nat.lt_of_lt_of_le (by decide) hn) rfl (by decide) rfl hi5 0 (by decide) (List.mem_of_getElem? (i := 1) rfl) rfl (val := .ref (gA g 1)) rfl dX5_change_1 ?_
  refine lv_iload_n C.1.1 C.1.2.1 dX5_change_4 rfl (lv_at hl 1 rfl) ?_
  refine a_B hS (run_V C hP hS hl.1 1 2 (Nat.lt_of_lt_of_le (by decide) hn) rfl (by decide) rfl [.int x] (kX2_has l g n v x v 1 (stR v 1) N (Or.inl rfl) (scr_self (sam_rfl v).1) hC) gX5_change_X2_has rfl hdX2_has rfl ⟨rfl, rfl⟩ ⟨Nat.le_of_ble_eq_true rfl, Nat.le_of_ble_eq_true rfl⟩ rfl [] rfl (Nat.le_of_ble_eq_true rfl) dX5_change_5 ⟨Nat.zero_le _, Nat.zero_le _⟩) (fun b_1 H locs hP hS => ?_) (fun b_1 H locs hP hS => ?_)
  · skip
    have kb_1 := b_1
    obtain ⟨jx, hjx, rfl⟩ := b_1
    refine lv_if_eq (tgt := 33) C.1.1 C.1.2.1 dX5_change_8 (by decide) (fun c_2 => absurd c_2 (by decide)) (fun _ => ?_)
    refine lv_iload_n C.1.1 C.1.2.1 dX5_change_11 rfl (lv_at hl 2 rfl) ?_
    refine lv_iconst (v := 0) C.1.1 C.1.2.1 dX5_change_12 rfl ?_
    refine lv_iconst (v := 5) C.1.1 C.1.2.1 dX5_change_13 rfl ?_
    refine a_B hS (run_S C hP hS hl.1 [.int y, .int 0, .int 5] (kX5_isWithin l g n v y 0 5) gX5_change_X5_isWithin hdX5_isWithin rfl ⟨rfl, rfl⟩ ⟨Nat.le_of_ble_eq_true rfl, Nat.le_of_ble_eq_true rfl⟩ rfl [] rfl (Nat.le_of_ble_eq_true rfl) dX5_change_14 ⟨Nat.zero_le _, Nat.zero_le _⟩) (fun b_3 H locs hP hS => ?_) (fun b_3 H locs hP hS => ?_)
    · skip
      have b_3 := (in_iffC 6 (by decide) (by decide)).mp b_3
      have kb_3 := b_3
      obtain ⟨jy, hjy, rfl⟩ := b_3
      refine lv_if_eq (tgt := 33) C.1.1 C.1.2.1 dX5_change_17 (by decide) (fun c_4 => absurd c_4 (by decide)) (fun _ => ?_)
      refine lv_iload_n C.1.1 C.1.2.1 dX5_change_20 rfl (lv_at hl 3 rfl) ?_
      refine lv_iconst (v := 0) C.1.1 C.1.2.1 dX5_change_21 rfl ?_
      refine va_gets C.1.1 C.1.2.1 C.2.1.2.2.1.2.1.1 hS C.1.2.2.2.1 (C.1.2.2.2.2 _ (List.mem_of_getElem? (i := 2) rfl)) (fun _ h => h) dX5_change_22 ?_
      refine lv_iload_n C.1.1 C.1.2.1 dX5_change_25 rfl (lv_at hl 2 rfl) ?_
      refine r_tald C hS 6 (by decide) C.2.1.2.2.1.2.1.2 jy rfl (by omega) dX5_change_26 ?_
      refine a_B hS (run_S C hP hS hl.1 [.int z, .int 0, .int (tbO.getD jy 0)] (kX5_isWithin l g n v z 0 (tbO.getD jy 0)) gX5_change_X5_isWithin hdX5_isWithin rfl ⟨rfl, rfl⟩ ⟨Nat.le_of_ble_eq_true rfl, Nat.le_of_ble_eq_true rfl⟩ rfl [] rfl (Nat.le_of_ble_eq_true rfl) dX5_change_27 ⟨Nat.zero_le _, Nat.zero_le _⟩) (fun b_5 H locs hP hS => ?_) (fun b_5 H locs hP hS => ?_)
      · skip
        have kch := b_5
        obtain ⟨mz, hmz, rfl⟩ := chg_nat hjy b_5
        refine lv_if_ne (tgt := 40) C.1.1 C.1.2.1 dX5_change_30 (by decide) (fun _ => ?_) (fun c_6 => absurd c_6 (by decide))
        refine lv_aload_n C.1.1 C.1.2.1 dX5_change_40 rfl (lv_at hl 0 rfl) ?_
        refine r_get C hP 0 5 (Nat.lt_of_lt_of_le (by decide) hn) rfl (by decide) rfl hi5 0 (by decide) (List.mem_of_getElem? (i := 1) rfl) rfl (val := .ref (gA g 1)) rfl dX5_change_41 ?_
        refine lv_iload_n C.1.1 C.1.2.1 dX5_change_44 rfl (lv_at hl 1 rfl) ?_
        refine lv_iload_n C.1.1 C.1.2.1 dX5_change_45 rfl (lv_at hl 2 rfl) ?_
        refine a_F hS (run_V C hP hS hl.1 1 2 (Nat.lt_of_lt_of_le (by decide) hn) rfl (by decide) rfl [.int (nI jx), .int (nI jy)] (kX2_tell l g n v jx (nI jy) v 1 (stR v 1) N (Or.inl rfl) (scr_self (sam_rfl v).1) hC hjx) gX5_change_X2_tell rfl hdX2_tell rfl ⟨rfl, rfl⟩ ⟨Nat.le_of_ble_eq_true rfl, Nat.le_of_ble_eq_true rfl⟩ rfl [] rfl (Nat.le_of_ble_eq_true rfl) dX5_change_46 ⟨Nat.zero_le _, Nat.zero_le _⟩) (fun H locs hP hS => ?_)
        refine lv_topE (v.1 54 (25 + 8 * jy + jx)) ((tell_agr (agr_symm hA) hjx h8).trans (tellF_lt hjy)) ?_
        refine lv_istore (lv' := [(4, .int (v.1 54 (25 + 8 * jy + jx))), (0, .ref (gA g 0)), (1, .int (nI jx)), (2, .int (nI jy)), (3, .int (nI mz))]) C.1.1 C.1.2.1 dX5_change_49 hl (by decide) rfl (fun ls hl => ?_)
        refine lv_aload_n C.1.1 C.1.2.1 dX5_change_51 rfl (lv_at hl 1 rfl) ?_
        refine r_get C hP 0 5 (Nat.lt_of_lt_of_le (by decide) hn) rfl (by decide) rfl hi5 0 (by decide) (List.mem_of_getElem? (i := 1) rfl) rfl (val := .ref (gA g 1)) rfl dX5_change_52 ?_
        refine r_get C hP 1 2 (Nat.lt_of_lt_of_le (by decide) hn) rfl (by decide) rfl hi2 9 (by decide) (List.mem_of_getElem? (i := 4) rfl) rfl (val := .ref (gA g 4)) rfl dX5_change_55 ?_
        refine lv_iload_n C.1.1 C.1.2.1 dX5_change_58 rfl (lv_at hl 2 rfl) ?_
        refine r_aald C hP 4 (Nat.lt_of_lt_of_le (by decide) hn) rfl jx rfl (by omega) dX5_change_59 ?_
        refine lv_iload_n C.1.1 C.1.2.1 dX5_change_60 rfl (lv_at hl 3 rfl) ?_
        refine lv_iload_n C.1.1 C.1.2.1 dX5_change_61 rfl (lv_at hl 4 rfl) ?_
        refine a_G hS (run_V C hP hS hl.1 (1 + 5 + jx) 0 (by omega) (kd_stR 1 (Or.inl rfl) jx (by omega)) (by decide) rfl [.int (nI jy), .int (nI mz)] (kX0_put l g n v (1 + 5 + jx) (by omega) (kd_stR 1 (Or.inl rfl) jx (by omega)) (nI jy) (nI mz)) gX5_change_X0_put rfl hdX0_put rfl ⟨rfl, rfl⟩ ⟨Nat.le_of_ble_eq_true rfl, Nat.le_of_ble_eq_true rfl⟩ rfl [] rfl (Nat.le_of_ble_eq_true rfl) dX5_change_62 ⟨Nat.zero_le _, Nat.zero_le _⟩) (fun H locs hP hS => ?_)
        rw [show upw v (1 + 5 + jx) (putR (v.1 (1 + 5 + jx)) (nI jy) (nI mz)) = stW v 1 (upd (stR v 1) (25 + 8 * jy + jx) (nI mz)) from st_put0 (k := 1) (by omega) hjy] at hP
        refine lv_iload C.1.1 C.1.2.1 dX5_change_65 (lv_at hl 0 rfl) ?_
        have e54_7 : (stW v 1 (upd (stR v 1) (25 + 8 * jy + jx) (nI mz))).1 54 = v.1 54 := (st_far (by decide))
        exact t_P C rfl hP hS (ps_to (show changeM (stW v 1 (upd (stR v 1) (25 + 8 * jy + jx) (nI mz))) (nI jx) (nI jy) (nI mz) = (v.1 54 (25 + 8 * jy + jx), upw (stW v 1 (upd (stR v 1) (25 + 8 * jy + jx) (nI mz))) 54 (upd (v.1 54) (25 + 8 * jy + jx) (nI mz))) from by simp only [changeM, nM_of e54_7 hM, e54_7, cif_pos kb_1, cif_pos kb_3, tn_nI (show jx < 2 ^ 31 by omega), tn_nI (show jy < 2 ^ 31 by omega), cif_pos ((chg_iff hjy).mpr kch), up]) rfl (Rl_row hR (okC_res hC hjy (by omega) hmz rfl) (agr_upd hA rfl))) (rsc_trans (rsc_rfl v) (rsc_st _ _ (by decide))) dX5_change_67
      · skip
        refine lv_if_ne (tgt := 40) C.1.1 C.1.2.1 dX5_change_30 (by decide) (fun c_8 => absurd c_8 (by decide)) (fun _ => ?_)
        refine lv_aload_n C.1.1 C.1.2.1 dX5_change_33 rfl (lv_at hl 0 rfl) ?_
        refine lv_ldc (v := (-1000001)) C.1.1 C.1.2.1 C.1.2.2.2.1 (C.1.2.2.2.2 _ (List.mem_of_getElem? (i := 3) rfl)) dX5_change_34 ?_
        refine a_F hS (run_V C hP hS hl.1 0 5 (Nat.lt_of_lt_of_le (by decide) hn) rfl (by decide) rfl [.int (-1000001)] (kX5_finding l g n v 0 (by decide) (-1000001) rfl) gX5_change_X5_finding rfl hdX5_finding rfl ⟨rfl, rfl⟩ ⟨Nat.le_of_ble_eq_true rfl, Nat.le_of_ble_eq_true rfl⟩ rfl [] rfl (Nat.le_of_ble_eq_true rfl) dX5_change_36 ⟨Nat.zero_le _, Nat.zero_le _⟩) (fun H locs hP hS => ?_)
        have e54_9 : (fnC v 0).1 54 = v.1 54 := (upw_ne _ _ (by decide))
        exact t_P C rfl hP hS (ps_fd (f := fun u => changeM u (nI jx) (nI jy) z) hR (sam_rfl v) (by decide) (by simp only [changeM, nM_of e54_9 hM, e54_9, cif_pos kb_1, cif_pos kb_3, tn_nI (show jx < 2 ^ 31 by omega), tn_nI (show jy < 2 ^ 31 by omega), cif_neg (fun h => b_5 ((chg_iff hjy).mp h))]) rfl) (rsc_trans (rsc_rfl v) (rsc_w _ _ (by decide))) dX5_change_39
    · skip
      have b_3 := fun h => b_3 ((in_iffC 6 (by decide) (by decide)).mpr h)
      refine lv_if_eq (tgt := 33) C.1.1 C.1.2.1 dX5_change_17 (by decide) (fun _ => ?_) (fun c_10 => absurd c_10 (by decide))
      refine lv_aload_n C.1.1 C.1.2.1 dX5_change_33 rfl (lv_at hl 0 rfl) ?_
      refine lv_ldc (v := (-1000001)) C.1.1 C.1.2.1 C.1.2.2.2.1 (C.1.2.2.2.2 _ (List.mem_of_getElem? (i := 3) rfl)) dX5_change_34 ?_
      refine a_F hS (run_V C hP hS hl.1 0 5 (Nat.lt_of_lt_of_le (by decide) hn) rfl (by decide) rfl [.int (-1000001)] (kX5_finding l g n v 0 (by decide) (-1000001) rfl) gX5_change_X5_finding rfl hdX5_finding rfl ⟨rfl, rfl⟩ ⟨Nat.le_of_ble_eq_true rfl, Nat.le_of_ble_eq_true rfl⟩ rfl [] rfl (Nat.le_of_ble_eq_true rfl) dX5_change_36 ⟨Nat.zero_le _, Nat.zero_le _⟩) (fun H locs hP hS => ?_)
      have e54_11 : (fnC v 0).1 54 = v.1 54 := (upw_ne _ _ (by decide))
      exact t_P C rfl hP hS (ps_fd (f := fun u => changeM u (nI jx) y z) hR (sam_rfl v) (by decide) (by simp only [changeM, nM_of e54_11 hM, e54_11, cif_pos kb_1, cif_neg b_3, tn_nI (show jx < 2 ^ 31 by omega)]) rfl) (rsc_trans (rsc_rfl v) (rsc_w _ _ (by decide))) dX5_change_39
  · skip
    refine lv_if_eq (tgt := 33) C.1.1 C.1.2.1 dX5_change_8 (by decide) (fun _ => ?_) (fun c_12 => absurd c_12 (by decide))
    refine lv_aload_n C.1.1 C.1.2.1 dX5_change_33 rfl (lv_at hl 0 rfl) ?_
    refine lv_ldc (v := (-1000001)) C.1.1 C.1.2.1 C.1.2.2.2.1 (C.1.2.2.2.2 _ (List.mem_of_getElem? (i := 3) rfl)) dX5_change_34 ?_
    refine a_F hS (run_V C hP hS hl.1 0 5 (Nat.lt_of_lt_of_le (by decide) hn) rfl (by decide) rfl [.int (-1000001)] (kX5_finding l g n v 0 (by decide) (-1000001) rfl) gX5_change_X5_finding rfl hdX5_finding rfl ⟨rfl, rfl⟩ ⟨Nat.le_of_ble_eq_true rfl, Nat.le_of_ble_eq_true rfl⟩ rfl [] rfl (Nat.le_of_ble_eq_true rfl) dX5_change_36 ⟨Nat.zero_le _, Nat.zero_le _⟩) (fun H locs hP hS => ?_)
    have e54_13 : (fnC v 0).1 54 = v.1 54 := (upw_ne _ _ (by decide))
    exact t_P C rfl hP hS (ps_fd (f := fun u => changeM u x y z) hR (sam_rfl v) (by decide) (by simp only [changeM, nM_of e54_13 hM, e54_13, cif_neg b_1]) rfl) (rsc_trans (rsc_rfl v) (rsc_w _ _ (by decide))) dX5_change_39

abbrev rmX5_tempted : Room := { frames := 2, cells := 0, slots := 0, locals := 44 }
set_option maxHeartbeats 4000000 in
set_option maxRecDepth 100000 in
theorem kX5_tempted (l : Launch) (g : GG) (n : Nat) (v : SV) (x y : Int32) (N : Nat) (hR : Rl v N) : Met l yX5_tempted wsX5_tempted rmX5_tempted (PW g n v [.ref (gA g 0), .int x, .int y]) (QP g n v (fun u => temptedM u x y)) 0 0 (wA g n) := by
  refine Met.begin RX5 rfl (by decide) rfl (Nat.le_of_ble_eq_true rfl) ?_
  intro p e s m args below meth c ls ha C hP hS hl
  have hn : 64 ≤ n := C.2.1.1.2.1
  have hi0 : ∀ w ∈ u_ws RX0 TX0 6, w ∈ wsX5_tempted := by decide +kernel
  have hi2 : ∀ w ∈ u_ws RX2 TX2 11, w ∈ wsX5_tempted := by decide +kernel
  have hi5 : ∀ w ∈ u_ws RX5 TX5 8, w ∈ wsX5_tempted := by decide +kernel
  have hl : lv_has ls 3 [(0, .ref (gA g 0)), (1, .int x), (2, .int y)] := hl
  have hC := hR.1.1
  have hA := hR.1.2
  have h8 := hC.1
  have hD : okC (v.1 54) N := okC_agr (agr_symm hA) hC
  have hM := okC_M hD
  refine lv_aload_n C.1.1 C.1.2.1 dX5_tempted_0 rfl (lv_at hl 0 rfl) ?_
  refine r_get C hP 0 5 (Nat.lt_of_lt_of_le (by decide) hn) rfl (by decide) rfl hi5 0 (by decide) (List.mem_of_getElem? (i := 1) rfl) rfl (val := .ref (gA g 1)) rfl dX5_tempted_1 ?_
  refine lv_iload_n C.1.1 C.1.2.1 dX5_tempted_4 rfl (lv_at hl 1 rfl) ?_
  refine a_B hS (run_V C hP hS hl.1 1 2 (Nat.lt_of_lt_of_le (by decide) hn) rfl (by decide) rfl [.int x] (kX2_has l g n v x v 1 (stR v 1) N (Or.inl rfl) (scr_self (sam_rfl v).1) hC) gX5_tempted_X2_has rfl hdX2_has rfl ⟨rfl, rfl⟩ ⟨Nat.le_of_ble_eq_true rfl, Nat.le_of_ble_eq_true rfl⟩ rfl [] rfl (Nat.le_of_ble_eq_true rfl) dX5_tempted_5 ⟨Nat.zero_le _, Nat.zero_le _⟩) (fun b_1 H locs hP hS => ?_) (fun b_1 H locs hP hS => ?_)
  · skip
    have kb_1 := b_1
    obtain ⟨jx, hjx, rfl⟩ := b_1
    refine lv_if_eq (tgt := 18) C.1.1 C.1.2.1 dX5_tempted_8 (by decide) (fun c_2 => absurd c_2 (by decide)) (fun _ => ?_)
    refine lv_iload_n C.1.1 C.1.2.1 dX5_tempted_11 rfl (lv_at hl 2 rfl) ?_
    refine a_B hS (run_S C hP hS hl.1 [.int y] (kX5_isGood l g n v y) gX5_tempted_X5_isGood hdX5_isGood rfl ⟨rfl, rfl⟩ ⟨Nat.le_of_ble_eq_true rfl, Nat.le_of_ble_eq_true rfl⟩ rfl [] rfl (Nat.le_of_ble_eq_true rfl) dX5_tempted_12 ⟨Nat.zero_le _, Nat.zero_le _⟩) (fun b_3 H locs hP hS => ?_) (fun b_3 H locs hP hS => ?_)
    · skip
      have kb_3 := b_3
      obtain ⟨jy, hjy, rfl⟩ := b_3
      refine lv_if_ne (tgt := 25) C.1.1 C.1.2.1 dX5_tempted_15 (by decide) (fun _ => ?_) (fun c_4 => absurd c_4 (by decide))
      refine lv_aload_n C.1.1 C.1.2.1 dX5_tempted_25 rfl (lv_at hl 0 rfl) ?_
      refine r_get C hP 0 5 (Nat.lt_of_lt_of_le (by decide) hn) rfl (by decide) rfl hi5 0 (by decide) (List.mem_of_getElem? (i := 1) rfl) rfl (val := .ref (gA g 1)) rfl dX5_tempted_26 ?_
      refine r_get C hP 1 2 (Nat.lt_of_lt_of_le (by decide) hn) rfl (by decide) rfl hi2 9 (by decide) (List.mem_of_getElem? (i := 3) rfl) rfl (val := .ref (gA g 4)) rfl dX5_tempted_29 ?_
      refine lv_iload_n C.1.1 C.1.2.1 dX5_tempted_32 rfl (lv_at hl 1 rfl) ?_
      refine r_aald C hP 4 (Nat.lt_of_lt_of_le (by decide) hn) rfl jx rfl (by omega) dX5_tempted_33 ?_
      refine lv_iload_n C.1.1 C.1.2.1 dX5_tempted_34 rfl (lv_at hl 2 rfl) ?_
      refine a_B hS (run_V C hP hS hl.1 (1 + 5 + jx) 0 (by omega) (kd_stR 1 (Or.inl rfl) jx (by omega)) (by decide) rfl [.int (nI jy)] (kX0_isTemptedBy l g n v (1 + 5 + jx) (by omega) (kd_stR 1 (Or.inl rfl) jx (by omega)) (nI jy)) gX5_tempted_X0_isTemptedBy rfl hdX0_isTemptedBy rfl ⟨rfl, rfl⟩ ⟨Nat.le_of_ble_eq_true rfl, Nat.le_of_ble_eq_true rfl⟩ rfl [] rfl (Nat.le_of_ble_eq_true rfl) dX5_tempted_35 ⟨Nat.zero_le _, Nat.zero_le _⟩) (fun b_5 H locs hP hS => ?_) (fun b_5 H locs hP hS => ?_)
      · skip
        have hT : temptF (rowM (v.1 54) jx) (nI jy) := by rw [← tempt6 (six0 hA hjx h8)]; exact b_5
        refine lv_if_eq (tgt := 45) C.1.1 C.1.2.1 dX5_tempted_38 (by decide) (fun c_6 => absurd c_6 (by decide)) (fun _ => ?_)
        refine lv_iconst (v := 1) C.1.1 C.1.2.1 dX5_tempted_41 rfl ?_
        refine lv_goto (tgt := 46) C.1.1 C.1.2.1 dX5_tempted_42 (by decide) ?_
        exact t_P C rfl hP hS (ps_eq (u := v) hR (show temptedM v (nI jx) (nI jy) = (1, v) from by simp only [temptedM, nM_eq hM, cif_pos kb_1, cif_pos kb_3, tn_nI (show jx < 2 ^ 31 by omega), tn_nI (show jy < 2 ^ 31 by omega), cif_pos hT]) rfl (sam_rfl v)) (rsc_rfl v) dX5_tempted_46
      · skip
        have hT : ¬ temptF (rowM (v.1 54) jx) (nI jy) := by rw [← tempt6 (six0 hA hjx h8)]; exact b_5
        refine lv_if_eq (tgt := 45) C.1.1 C.1.2.1 dX5_tempted_38 (by decide) (fun _ => ?_) (fun c_7 => absurd c_7 (by decide))
        refine lv_iconst (v := 0) C.1.1 C.1.2.1 dX5_tempted_45 rfl ?_
        exact t_P C rfl hP hS (ps_eq (u := v) hR (show temptedM v (nI jx) (nI jy) = (0, v) from by simp only [temptedM, nM_eq hM, cif_pos kb_1, cif_pos kb_3, tn_nI (show jx < 2 ^ 31 by omega), tn_nI (show jy < 2 ^ 31 by omega), cif_neg hT]) rfl (sam_rfl v)) (rsc_rfl v) dX5_tempted_46
    · skip
      refine lv_if_ne (tgt := 25) C.1.1 C.1.2.1 dX5_tempted_15 (by decide) (fun c_8 => absurd c_8 (by decide)) (fun _ => ?_)
      refine lv_aload_n C.1.1 C.1.2.1 dX5_tempted_18 rfl (lv_at hl 0 rfl) ?_
      refine lv_ldc (v := (-1000001)) C.1.1 C.1.2.1 C.1.2.2.2.1 (C.1.2.2.2.2 _ (List.mem_of_getElem? (i := 2) rfl)) dX5_tempted_19 ?_
      refine a_F hS (run_V C hP hS hl.1 0 5 (Nat.lt_of_lt_of_le (by decide) hn) rfl (by decide) rfl [.int (-1000001)] (kX5_finding l g n v 0 (by decide) (-1000001) rfl) gX5_tempted_X5_finding rfl hdX5_finding rfl ⟨rfl, rfl⟩ ⟨Nat.le_of_ble_eq_true rfl, Nat.le_of_ble_eq_true rfl⟩ rfl [] rfl (Nat.le_of_ble_eq_true rfl) dX5_tempted_21 ⟨Nat.zero_le _, Nat.zero_le _⟩) (fun H locs hP hS => ?_)
      have e54_9 : (fnC v 0).1 54 = v.1 54 := (upw_ne _ _ (by decide))
      exact t_P C rfl hP hS (ps_fd (f := fun u => temptedM u (nI jx) y) hR (sam_rfl v) (by decide) (by simp only [temptedM, nM_of e54_9 hM, e54_9, cif_pos kb_1, cif_neg b_3, tn_nI (show jx < 2 ^ 31 by omega)]) rfl) (rsc_trans (rsc_rfl v) (rsc_w _ _ (by decide))) dX5_tempted_24
  · skip
    refine lv_if_eq (tgt := 18) C.1.1 C.1.2.1 dX5_tempted_8 (by decide) (fun _ => ?_) (fun c_10 => absurd c_10 (by decide))
    refine lv_aload_n C.1.1 C.1.2.1 dX5_tempted_18 rfl (lv_at hl 0 rfl) ?_
    refine lv_ldc (v := (-1000001)) C.1.1 C.1.2.1 C.1.2.2.2.1 (C.1.2.2.2.2 _ (List.mem_of_getElem? (i := 2) rfl)) dX5_tempted_19 ?_
    refine a_F hS (run_V C hP hS hl.1 0 5 (Nat.lt_of_lt_of_le (by decide) hn) rfl (by decide) rfl [.int (-1000001)] (kX5_finding l g n v 0 (by decide) (-1000001) rfl) gX5_tempted_X5_finding rfl hdX5_finding rfl ⟨rfl, rfl⟩ ⟨Nat.le_of_ble_eq_true rfl, Nat.le_of_ble_eq_true rfl⟩ rfl [] rfl (Nat.le_of_ble_eq_true rfl) dX5_tempted_21 ⟨Nat.zero_le _, Nat.zero_le _⟩) (fun H locs hP hS => ?_)
    have e54_11 : (fnC v 0).1 54 = v.1 54 := (upw_ne _ _ (by decide))
    exact t_P C rfl hP hS (ps_fd (f := fun u => temptedM u x y) hR (sam_rfl v) (by decide) (by simp only [temptedM, nM_of e54_11 hM, e54_11, cif_neg b_1]) rfl) (rsc_trans (rsc_rfl v) (rsc_w _ _ (by decide))) dX5_tempted_24

abbrev rmX5_go : Room := { frames := 7, cells := 0, slots := 0, locals := 155 }
set_option maxHeartbeats 4000000 in
set_option maxRecDepth 100000 in
theorem kX5_go (l : Launch) (g : GG) (n : Nat) (v : SV) (x : Int32) (N : Nat) (hR : Rl v N) : Met l yX5_go wsX5_go rmX5_go (PW g n v [.ref (gA g 0), .int x]) (QP g n v (fun u => goM u x)) 0 0 (wA g n) := by
  refine Met.begin RX5 rfl (by decide) rfl (Nat.le_of_ble_eq_true rfl) ?_
  intro p e s m args below meth c ls ha C hP hS hl
  have hn : 64 ≤ n := C.2.1.1.2.1
  have hi0 : ∀ w ∈ u_ws RX0 TX0 6, w ∈ wsX5_go := by decide +kernel
  have hi2 : ∀ w ∈ u_ws RX2 TX2 11, w ∈ wsX5_go := by decide +kernel
  have hi5 : ∀ w ∈ u_ws RX5 TX5 8, w ∈ wsX5_go := by decide +kernel
  have hl : lv_has ls 2 [(0, .ref (gA g 0)), (1, .int x)] := hl
  have hC := hR.1.1
  have hA := hR.1.2
  have h8 := hC.1
  have hD : okC (v.1 54) N := okC_agr (agr_symm hA) hC
  have hM := okC_M hD
  obtain ⟨D, hDD, hD1⟩ := (okC_M hC).2.2.1
  refine lv_iload_n C.1.1 C.1.2.1 dX5_go_0 rfl (lv_at hl 1 rfl) ?_
  refine lv_iconst (v := 1) C.1.1 C.1.2.1 dX5_go_1 rfl ?_
  refine lv_bipush (v := 60) C.1.1 C.1.2.1 dX5_go_2 rfl ?_
  refine a_B hS (run_S C hP hS hl.1 [.int x, .int 1, .int 60] (kX5_isWithin l g n v x 1 60) gX5_go_X5_isWithin hdX5_isWithin rfl ⟨rfl, rfl⟩ ⟨Nat.le_of_ble_eq_true rfl, Nat.le_of_ble_eq_true rfl⟩ rfl [] rfl (Nat.le_of_ble_eq_true rfl) dX5_go_4 ⟨Nat.zero_le _, Nat.zero_le _⟩) (fun b_1 H locs hP hS => ?_) (fun b_1 H locs hP hS => ?_)
  · skip
    have b_1 := (in_iffC2 1 61 (by decide) (by decide) (by decide)).mp b_1
    have kb_1 := b_1
    obtain ⟨jx, hljx, hjx, rfl⟩ := b_1
    refine lv_if_ne (tgt := 17) C.1.1 C.1.2.1 dX5_go_7 (by decide) (fun _ => ?_) (fun c_2 => absurd c_2 (by decide))
    refine lv_aload_n C.1.1 C.1.2.1 dX5_go_17 rfl (lv_at hl 0 rfl) ?_
    refine r_get C hP 0 5 (Nat.lt_of_lt_of_le (by decide) hn) rfl (by decide) rfl hi5 0 (by decide) (List.mem_of_getElem? (i := 2) rfl) rfl (val := .ref (gA g 1)) rfl dX5_go_18 ?_
    refine r_get C hP 1 2 (Nat.lt_of_lt_of_le (by decide) hn) rfl (by decide) rfl hi2 6 (by decide) (List.mem_of_getElem? (i := 3) rfl) rfl (val := .int (v.1 1 6)) rfl dX5_go_21 ?_
    refine lv_topE (nI D) ((scr_rd (i := 1) (sam_rfl v).1 (sl_k rfl) (by decide)).trans hD1) ?_
    refine lv_iload_n C.1.1 C.1.2.1 dX5_go_24 rfl (lv_at hl 1 rfl) ?_
    refine lv_iadd C.1.1 C.1.2.1 dX5_go_25 ?_
    refine lv_topE (nI (D + jx)) (nI_add D jx) ?_
    refine lv_ldc (v := 99999) C.1.1 C.1.2.1 C.1.2.2.2.1 (C.1.2.2.2.2 _ (List.mem_of_getElem? (i := 4) rfl)) dX5_go_26 ?_
    refine lv_icmp_le (tgt := 38) C.1.1 C.1.2.1 dX5_go_28 (by decide) (fun c_3 => ?_) (fun c_3 => ?_)
    · rw [show (nI (D + jx) ≤ 99999) = (D + jx ≤ 99999) from propext (nI_leI (a := D + jx) (b := 99999) (by omega) (by omega))] at c_3
      refine lv_aload_n C.1.1 C.1.2.1 dX5_go_38 rfl (lv_at hl 0 rfl) ?_
      refine r_get C hP 0 5 (Nat.lt_of_lt_of_le (by decide) hn) rfl (by decide) rfl hi5 0 (by decide) (List.mem_of_getElem? (i := 2) rfl) rfl (val := .ref (gA g 1)) rfl dX5_go_39 ?_
      refine lv_iload_n C.1.1 C.1.2.1 dX5_go_42 rfl (lv_at hl 1 rfl) ?_
      refine a_G hS (run_V C hP hS hl.1 1 2 (Nat.lt_of_lt_of_le (by decide) hn) rfl (by decide) rfl [.int (nI jx)] (kX2_passDays l g n v jx (by omega) v 1 (stR v 1) N (Or.inl rfl) (scr_self (sam_rfl v).1) hC) gX5_go_X2_passDays rfl hdX2_passDays rfl ⟨rfl, rfl⟩ ⟨Nat.le_of_ble_eq_true rfl, Nat.le_of_ble_eq_true rfl⟩ rfl [] rfl (Nat.le_of_ble_eq_true rfl) dX5_go_43 ⟨Nat.zero_le _, Nat.zero_le _⟩) (fun H locs hP hS => ?_)
      refine lv_aload_n C.1.1 C.1.2.1 dX5_go_46 rfl (lv_at hl 0 rfl) ?_
      refine r_get C hP 0 5 (Nat.lt_of_lt_of_le (by decide) hn) rfl (by decide) rfl hi5 0 (by decide) (List.mem_of_getElem? (i := 2) rfl) rfl (val := .ref (gA g 1)) rfl dX5_go_47 ?_
      refine r_get C hP 1 2 (Nat.lt_of_lt_of_le (by decide) hn) rfl (by decide) rfl hi2 5 (by decide) (List.mem_of_getElem? (i := 6) rfl) rfl (val := .int ((stW v 1 (daysM (stR v 1) jx)).1 1 5)) rfl dX5_go_50 ?_
      refine lv_topE ((daysM (v.1 54) jx) 6) ((st_at (i := 6) (sl_k rfl) (by decide)).trans (agr_lo (agr_days (agr_symm hA) (okC_M hC) jx) (by decide))) ?_
      have e54_4 : (stW v 1 (daysM (stR v 1) jx)).1 54 = v.1 54 := (st_far (by decide))
      exact t_P C rfl hP hS (ps_to (show goM (stW v 1 (daysM (stR v 1) jx)) (nI jx) = (daysM (v.1 54) jx 6, upw (stW v 1 (daysM (stR v 1) jx)) 54 (daysM (v.1 54) jx)) from by simp only [goM, nM_of e54_4 hM, e54_4, cif_pos kb_1, if_pos c_3, tn_nI (show jx < 2 ^ 31 by omega), show v.1 54 1 = nI D from (agr_lo hA (by decide)).trans hD1, tn_nI (show D < 2 ^ 31 by omega), up]) rfl (Rl_row hR (okC_days hC jx) (agr_days hA hM jx))) (rsc_trans (rsc_rfl v) (rsc_st _ _ (by decide))) dX5_go_53
    · rw [show (nI (D + jx) ≤ 99999) = (D + jx ≤ 99999) from propext (nI_leI (a := D + jx) (b := 99999) (by omega) (by omega))] at c_3
      refine lv_aload_n C.1.1 C.1.2.1 dX5_go_31 rfl (lv_at hl 0 rfl) ?_
      refine lv_ldc (v := (-1000005)) C.1.1 C.1.2.1 C.1.2.2.2.1 (C.1.2.2.2.2 _ (List.mem_of_getElem? (i := 5) rfl)) dX5_go_32 ?_
      refine a_F hS (run_V C hP hS hl.1 0 5 (Nat.lt_of_lt_of_le (by decide) hn) rfl (by decide) rfl [.int (-1000005)] (kX5_finding l g n v 4 (by decide) (-1000005) rfl) gX5_go_X5_finding rfl hdX5_finding rfl ⟨rfl, rfl⟩ ⟨Nat.le_of_ble_eq_true rfl, Nat.le_of_ble_eq_true rfl⟩ rfl [] rfl (Nat.le_of_ble_eq_true rfl) dX5_go_34 ⟨Nat.zero_le _, Nat.zero_le _⟩) (fun H locs hP hS => ?_)
      have e54_5 : (fnC v 4).1 54 = v.1 54 := (upw_ne _ _ (by decide))
      exact t_P C rfl hP hS (ps_fd (f := fun u => goM u (nI jx)) hR (sam_rfl v) (by decide) (by simp only [goM, nM_of e54_5 hM, e54_5, cif_pos kb_1, if_neg c_3, tn_nI (show jx < 2 ^ 31 by omega), show v.1 54 1 = nI D from (agr_lo hA (by decide)).trans hD1, tn_nI (show D < 2 ^ 31 by omega)]) rfl) (rsc_trans (rsc_rfl v) (rsc_w _ _ (by decide))) dX5_go_37
  · skip
    have b_1 := fun h => b_1 ((in_iffC2 1 61 (by decide) (by decide) (by decide)).mpr h)
    refine lv_if_ne (tgt := 17) C.1.1 C.1.2.1 dX5_go_7 (by decide) (fun c_6 => absurd c_6 (by decide)) (fun _ => ?_)
    refine lv_aload_n C.1.1 C.1.2.1 dX5_go_10 rfl (lv_at hl 0 rfl) ?_
    refine lv_ldc (v := (-1000001)) C.1.1 C.1.2.1 C.1.2.2.2.1 (C.1.2.2.2.2 _ (List.mem_of_getElem? (i := 1) rfl)) dX5_go_11 ?_
    refine a_F hS (run_V C hP hS hl.1 0 5 (Nat.lt_of_lt_of_le (by decide) hn) rfl (by decide) rfl [.int (-1000001)] (kX5_finding l g n v 0 (by decide) (-1000001) rfl) gX5_go_X5_finding rfl hdX5_finding rfl ⟨rfl, rfl⟩ ⟨Nat.le_of_ble_eq_true rfl, Nat.le_of_ble_eq_true rfl⟩ rfl [] rfl (Nat.le_of_ble_eq_true rfl) dX5_go_13 ⟨Nat.zero_le _, Nat.zero_le _⟩) (fun H locs hP hS => ?_)
    have e54_7 : (fnC v 0).1 54 = v.1 54 := (upw_ne _ _ (by decide))
    exact t_P C rfl hP hS (ps_fd (f := fun u => goM u x) hR (sam_rfl v) (by decide) (by simp only [goM, nM_of e54_7 hM, e54_7, cif_neg b_1, show v.1 54 1 = nI D from (agr_lo hA (by decide)).trans hD1, tn_nI (show D < 2 ^ 31 by omega)]) rfl) (rsc_trans (rsc_rfl v) (rsc_w _ _ (by decide))) dX5_go_16

abbrev rmX5_now : Room := { frames := 2, cells := 0, slots := 0, locals := 46 }
set_option maxHeartbeats 4000000 in
set_option maxRecDepth 100000 in
theorem kX5_now (l : Launch) (g : GG) (n : Nat) (v : SV) (x : Int32) (N : Nat) (hR : Rl v N) : Met l yX5_now wsX5_now rmX5_now (PW g n v [.ref (gA g 0), .int x]) (QP g n v (fun u => nowM u x)) 0 0 (wA g n) := by
  refine Met.begin RX5 rfl (by decide) rfl (Nat.le_of_ble_eq_true rfl) ?_
  intro p e s m args below meth c ls ha C hP hS hl
  have hn : 64 ≤ n := C.2.1.1.2.1
  have hi0 : ∀ w ∈ u_ws RX0 TX0 6, w ∈ wsX5_now := by decide +kernel
  have hi2 : ∀ w ∈ u_ws RX2 TX2 11, w ∈ wsX5_now := by decide +kernel
  have hi5 : ∀ w ∈ u_ws RX5 TX5 8, w ∈ wsX5_now := by decide +kernel
  have hl : lv_has ls 2 [(0, .ref (gA g 0)), (1, .int x)] := hl
  have hC := hR.1.1
  have hA := hR.1.2
  have h8 := hC.1
  have hD : okC (v.1 54) N := okC_agr (agr_symm hA) hC
  have hM := okC_M hD
  refine lv_iload_n C.1.1 C.1.2.1 dX5_now_0 rfl (lv_at hl 1 rfl) ?_
  by_cases c_1 : x = 0
  · refine lv_topE 0 c_1 ?_
    refine lv_tableIn (off := 47) (tgt := 48) C.1.1 C.1.2.1 dX5_now_1 (by decide) (by decide) rfl (by decide) ?_
    refine lv_aload_n C.1.1 C.1.2.1 dX5_now_48 rfl (lv_at hl 0 rfl) ?_
    refine r_get C hP 0 5 (Nat.lt_of_lt_of_le (by decide) hn) rfl (by decide) rfl hi5 0 (by decide) (List.mem_of_getElem? (i := 1) rfl) rfl (val := .ref (gA g 1)) rfl dX5_now_49 ?_
    refine r_get C hP 1 2 (Nat.lt_of_lt_of_le (by decide) hn) rfl (by decide) rfl hi2 6 (by decide) (List.mem_of_getElem? (i := 2) rfl) rfl (val := .int (v.1 1 6)) rfl dX5_now_52 ?_
    refine lv_topE (v.1 54 1) ((scr_rd (i := 1) (sam_rfl v).1 (sl_k rfl) (by decide)).trans (agr_lo (agr_symm hA) (by decide))) ?_
    exact t_P C rfl hP hS (ps_eq (u := v) hR (show nowM v x = (v.1 54 1, v) from by simp only [nowM, nM_eq hM, if_pos c_1]) rfl (sam_rfl v)) (rsc_rfl v) dX5_now_55
  by_cases c_2 : x = 1
  · refine lv_topE 1 c_2 ?_
    refine lv_tableIn (off := 55) (tgt := 56) C.1.1 C.1.2.1 dX5_now_1 (by decide) (by decide) rfl (by decide) ?_
    refine lv_aload_n C.1.1 C.1.2.1 dX5_now_56 rfl (lv_at hl 0 rfl) ?_
    refine r_get C hP 0 5 (Nat.lt_of_lt_of_le (by decide) hn) rfl (by decide) rfl hi5 0 (by decide) (List.mem_of_getElem? (i := 1) rfl) rfl (val := .ref (gA g 1)) rfl dX5_now_57 ?_
    refine r_get C hP 1 2 (Nat.lt_of_lt_of_le (by decide) hn) rfl (by decide) rfl hi2 5 (by decide) (List.mem_of_getElem? (i := 3) rfl) rfl (val := .int (v.1 1 5)) rfl dX5_now_60 ?_
    refine lv_topE (v.1 54 6) ((scr_rd (i := 6) (sam_rfl v).1 (sl_k rfl) (by decide)).trans (agr_lo (agr_symm hA) (by decide))) ?_
    exact t_P C rfl hP hS (ps_eq (u := v) hR (show nowM v x = (v.1 54 6, v) from by simp only [nowM, nM_eq hM, if_neg c_1, if_pos c_2]) rfl (sam_rfl v)) (rsc_rfl v) dX5_now_63
  by_cases c_3 : x = 2
  · refine lv_topE 2 c_3 ?_
    refine lv_tableIn (off := 63) (tgt := 64) C.1.1 C.1.2.1 dX5_now_1 (by decide) (by decide) rfl (by decide) ?_
    refine lv_aload_n C.1.1 C.1.2.1 dX5_now_64 rfl (lv_at hl 0 rfl) ?_
    refine r_get C hP 0 5 (Nat.lt_of_lt_of_le (by decide) hn) rfl (by decide) rfl hi5 0 (by decide) (List.mem_of_getElem? (i := 1) rfl) rfl (val := .ref (gA g 1)) rfl dX5_now_65 ?_
    refine lv_aload_n C.1.1 C.1.2.1 dX5_now_68 rfl (lv_at hl 0 rfl) ?_
    refine r_get C hP 0 5 (Nat.lt_of_lt_of_le (by decide) hn) rfl (by decide) rfl hi5 0 (by decide) (List.mem_of_getElem? (i := 1) rfl) rfl (val := .ref (gA g 1)) rfl dX5_now_69 ?_
    refine a_F hS (run_V C hP hS hl.1 1 2 (Nat.lt_of_lt_of_le (by decide) hn) rfl (by decide) rfl [] (kX2_everybody l g n v v 1 (stR v 1) N (Or.inl rfl) (scr_self (sam_rfl v).1) hC) gX5_now_X2_everybody rfl hdX2_everybody rfl ⟨rfl, rfl⟩ ⟨Nat.le_of_ble_eq_true rfl, Nat.le_of_ble_eq_true rfl⟩ rfl [.ref (gA g 1)] rfl (Nat.le_of_ble_eq_true rfl) dX5_now_72 ⟨Nat.zero_le _, Nat.zero_le _⟩) (fun H locs hP hS => ?_)
    refine a_F hS (run_V C hP hS hl.1 1 2 (Nat.lt_of_lt_of_le (by decide) hn) rfl (by decide) rfl [.int (1 <<< (nI N &&& 31) - 1)] (kX2_wantedBy l g n v (1 <<< (nI N &&& 31) - 1) v 1 (stR v 1) N (Or.inl rfl) (scr_self (sam_rfl v).1) hC) gX5_now_X2_wantedBy rfl hdX2_wantedBy rfl ⟨rfl, rfl⟩ ⟨Nat.le_of_ble_eq_true rfl, Nat.le_of_ble_eq_true rfl⟩ rfl [] rfl (Nat.le_of_ble_eq_true rfl) dX5_now_75 ⟨Nat.zero_le _, Nat.zero_le _⟩) (fun H locs hP hS => ?_)
    refine lv_topE (wantedM (v.1 54) N) ((wb_all h8 N (Nat.le_refl N)).trans (wanted_cong (agr_symm hA) h8 N (Nat.le_refl N))) ?_
    exact t_P C rfl hP hS (ps_eq (u := v) hR (show nowM v x = (wantedM (v.1 54) N, v) from by simp only [nowM, nM_eq hM, if_neg c_1, if_neg c_2, if_pos c_3]) rfl (sam_rfl v)) (rsc_rfl v) dX5_now_78
  by_cases c_4 : x = 3
  · refine lv_topE 3 c_4 ?_
    refine lv_tableIn (off := 78) (tgt := 79) C.1.1 C.1.2.1 dX5_now_1 (by decide) (by decide) rfl (by decide) ?_
    refine lv_aload_n C.1.1 C.1.2.1 dX5_now_79 rfl (lv_at hl 0 rfl) ?_
    refine r_get C hP 0 5 (Nat.lt_of_lt_of_le (by decide) hn) rfl (by decide) rfl hi5 0 (by decide) (List.mem_of_getElem? (i := 1) rfl) rfl (val := .ref (gA g 1)) rfl dX5_now_80 ?_
    refine a_F hS (run_V C hP hS hl.1 1 2 (Nat.lt_of_lt_of_le (by decide) hn) rfl (by decide) rfl [] (kX2_allHope l g n v v 1 (stR v 1) N (Or.inl rfl) (scr_self (sam_rfl v).1) hC) gX5_now_X2_allHope rfl hdX2_allHope rfl ⟨rfl, rfl⟩ ⟨Nat.le_of_ble_eq_true rfl, Nat.le_of_ble_eq_true rfl⟩ rfl [] rfl (Nat.le_of_ble_eq_true rfl) dX5_now_83 ⟨Nat.zero_le _, Nat.zero_le _⟩) (fun H locs hP hS => ?_)
    refine lv_topE (sumM (v.1 54) 3 N) (sum_cong (agr_symm hA) h8 (by decide) N (Nat.le_refl N)) ?_
    exact t_P C rfl hP hS (ps_eq (u := v) hR (show nowM v x = (sumM (v.1 54) 3 N, v) from by simp only [nowM, nM_eq hM, if_neg c_1, if_neg c_2, if_neg c_3, if_pos c_4]) rfl (sam_rfl v)) (rsc_rfl v) dX5_now_86
  by_cases c_5 : x = 4
  · refine lv_topE 4 c_5 ?_
    refine lv_tableIn (off := 86) (tgt := 87) C.1.1 C.1.2.1 dX5_now_1 (by decide) (by decide) rfl (by decide) ?_
    refine lv_aload_n C.1.1 C.1.2.1 dX5_now_87 rfl (lv_at hl 0 rfl) ?_
    refine r_get C hP 0 5 (Nat.lt_of_lt_of_le (by decide) hn) rfl (by decide) rfl hi5 0 (by decide) (List.mem_of_getElem? (i := 1) rfl) rfl (val := .ref (gA g 1)) rfl dX5_now_88 ?_
    refine a_F hS (run_V C hP hS hl.1 1 2 (Nat.lt_of_lt_of_le (by decide) hn) rfl (by decide) rfl [] (kX2_allStood l g n v v 1 (stR v 1) N (Or.inl rfl) (scr_self (sam_rfl v).1) hC) gX5_now_X2_allStood rfl hdX2_allStood rfl ⟨rfl, rfl⟩ ⟨Nat.le_of_ble_eq_true rfl, Nat.le_of_ble_eq_true rfl⟩ rfl [] rfl (Nat.le_of_ble_eq_true rfl) dX5_now_91 ⟨Nat.zero_le _, Nat.zero_le _⟩) (fun H locs hP hS => ?_)
    refine lv_topE (sumM (v.1 54) 4 N) (sum_cong (agr_symm hA) h8 (by decide) N (Nat.le_refl N)) ?_
    exact t_P C rfl hP hS (ps_eq (u := v) hR (show nowM v x = (sumM (v.1 54) 4 N, v) from by simp only [nowM, nM_eq hM, if_neg c_1, if_neg c_2, if_neg c_3, if_neg c_4, if_pos c_5]) rfl (sam_rfl v)) (rsc_rfl v) dX5_now_94
  by_cases c_6 : x = 5
  · refine lv_topE 5 c_6 ?_
    refine lv_tableIn (off := 94) (tgt := 95) C.1.1 C.1.2.1 dX5_now_1 (by decide) (by decide) rfl (by decide) ?_
    refine lv_aload_n C.1.1 C.1.2.1 dX5_now_95 rfl (lv_at hl 0 rfl) ?_
    refine r_get C hP 0 5 (Nat.lt_of_lt_of_le (by decide) hn) rfl (by decide) rfl hi5 0 (by decide) (List.mem_of_getElem? (i := 1) rfl) rfl (val := .ref (gA g 1)) rfl dX5_now_96 ?_
    refine a_F hS (run_V C hP hS hl.1 1 2 (Nat.lt_of_lt_of_le (by decide) hn) rfl (by decide) rfl [] (kX2_allRegister l g n v v 1 (stR v 1) N (Or.inl rfl) (scr_self (sam_rfl v).1) hC) gX5_now_X2_allRegister rfl hdX2_allRegister rfl ⟨rfl, rfl⟩ ⟨Nat.le_of_ble_eq_true rfl, Nat.le_of_ble_eq_true rfl⟩ rfl [] rfl (Nat.le_of_ble_eq_true rfl) dX5_now_99 ⟨Nat.zero_le _, Nat.zero_le _⟩) (fun H locs hP hS => ?_)
    refine lv_topE (rsumM (v.1 54) 12) (rsum_cong (agr_symm hA) 12 (by decide)) ?_
    exact t_P C rfl hP hS (ps_eq (u := v) hR (show nowM v x = (rsumM (v.1 54) 12, v) from by simp only [nowM, nM_eq hM, if_neg c_1, if_neg c_2, if_neg c_3, if_neg c_4, if_neg c_5, if_pos c_6]) rfl (sam_rfl v)) (rsc_rfl v) dX5_now_102
  by_cases c_7 : x = 6
  · refine lv_topE 6 c_7 ?_
    refine lv_tableIn (off := 102) (tgt := 103) C.1.1 C.1.2.1 dX5_now_1 (by decide) (by decide) rfl (by decide) ?_
    refine lv_aload_n C.1.1 C.1.2.1 dX5_now_103 rfl (lv_at hl 0 rfl) ?_
    refine r_get C hP 0 5 (Nat.lt_of_lt_of_le (by decide) hn) rfl (by decide) rfl hi5 0 (by decide) (List.mem_of_getElem? (i := 1) rfl) rfl (val := .ref (gA g 1)) rfl dX5_now_104 ?_
    refine a_F hS (run_V C hP hS hl.1 1 2 (Nat.lt_of_lt_of_le (by decide) hn) rfl (by decide) rfl [] (kX2_goodsInRegister l g n v v 1 (stR v 1) N (Or.inl rfl) (scr_self (sam_rfl v).1) hC) gX5_now_X2_goodsInRegister rfl hdX2_goodsInRegister rfl ⟨rfl, rfl⟩ ⟨Nat.le_of_ble_eq_true rfl, Nat.le_of_ble_eq_true rfl⟩ rfl [] rfl (Nat.le_of_ble_eq_true rfl) dX5_now_107 ⟨Nat.zero_le _, Nat.zero_le _⟩) (fun H locs hP hS => ?_)
    refine lv_topE (rsetM (v.1 54) 12) (rset_cong (agr_symm hA) 12 (by decide)) ?_
    exact t_P C rfl hP hS (ps_eq (u := v) hR (show nowM v x = (rsetM (v.1 54) 12, v) from by simp only [nowM, nM_eq hM, if_neg c_1, if_neg c_2, if_neg c_3, if_neg c_4, if_neg c_5, if_neg c_6, if_pos c_7]) rfl (sam_rfl v)) (rsc_rfl v) dX5_now_110
  by_cases c_8 : x = 7
  · refine lv_topE 7 c_8 ?_
    refine lv_tableIn (off := 110) (tgt := 111) C.1.1 C.1.2.1 dX5_now_1 (by decide) (by decide) rfl (by decide) ?_
    refine lv_aload_n C.1.1 C.1.2.1 dX5_now_111 rfl (lv_at hl 0 rfl) ?_
    refine r_get C hP 0 5 (Nat.lt_of_lt_of_le (by decide) hn) rfl (by decide) rfl hi5 0 (by decide) (List.mem_of_getElem? (i := 1) rfl) rfl (val := .ref (gA g 1)) rfl dX5_now_112 ?_
    refine a_F hS (run_V C hP hS hl.1 1 2 (Nat.lt_of_lt_of_le (by decide) hn) rfl (by decide) rfl [] (kX2_fetches l g n v v 1 (stR v 1) N (Or.inl rfl) (scr_self (sam_rfl v).1) hC) gX5_now_X2_fetches rfl hdX2_fetches rfl ⟨rfl, rfl⟩ ⟨Nat.le_of_ble_eq_true rfl, Nat.le_of_ble_eq_true rfl⟩ rfl [] rfl (Nat.le_of_ble_eq_true rfl) dX5_now_115 ⟨Nat.zero_le _, Nat.zero_le _⟩) (fun H locs hP hS => ?_)
    refine lv_topE (fetchM (v.1 54)) (agr_fetch (agr_symm hA)) ?_
    exact t_P C rfl hP hS (ps_eq (u := v) hR (show nowM v x = (fetchM (v.1 54), v) from by simp only [nowM, nM_eq hM, if_neg c_1, if_neg c_2, if_neg c_3, if_neg c_4, if_neg c_5, if_neg c_6, if_neg c_7, if_pos c_8]) rfl (sam_rfl v)) (rsc_rfl v) dX5_now_118
  have hsw : x.toInt < 0 ∨ 7 < x.toInt := by
    have qc_1 := lv_neT (a := 0) c_1 rfl
    have qc_2 := lv_neT (a := 1) c_2 rfl
    have qc_3 := lv_neT (a := 2) c_3 rfl
    have qc_4 := lv_neT (a := 3) c_4 rfl
    have qc_5 := lv_neT (a := 4) c_5 rfl
    have qc_6 := lv_neT (a := 5) c_6 rfl
    have qc_7 := lv_neT (a := 6) c_7 rfl
    have qc_8 := lv_neT (a := 7) c_8 rfl
    omega
  refine lv_tableOut (tgt := 119) C.1.1 C.1.2.1 dX5_now_1 hsw (by decide) ?_
  refine lv_aload_n C.1.1 C.1.2.1 dX5_now_119 rfl (lv_at hl 0 rfl) ?_
  refine lv_ldc (v := (-1000001)) C.1.1 C.1.2.1 C.1.2.2.2.1 (C.1.2.2.2.2 _ (List.mem_of_getElem? (i := 4) rfl)) dX5_now_120 ?_
  refine a_F hS (run_V C hP hS hl.1 0 5 (Nat.lt_of_lt_of_le (by decide) hn) rfl (by decide) rfl [.int (-1000001)] (kX5_finding l g n v 0 (by decide) (-1000001) rfl) gX5_now_X5_finding rfl hdX5_finding rfl ⟨rfl, rfl⟩ ⟨Nat.le_of_ble_eq_true rfl, Nat.le_of_ble_eq_true rfl⟩ rfl [] rfl (Nat.le_of_ble_eq_true rfl) dX5_now_122 ⟨Nat.zero_le _, Nat.zero_le _⟩) (fun H locs hP hS => ?_)
  have e54_9 : (fnC v 0).1 54 = v.1 54 := (upw_ne _ _ (by decide))
  exact t_P C rfl hP hS (ps_fd (f := fun u => nowM u x) hR (sam_rfl v) (by decide) (by simp only [nowM, nM_of e54_9 hM, e54_9, if_neg c_1, if_neg c_2, if_neg c_3, if_neg c_4, if_neg c_5, if_neg c_6, if_neg c_7, if_neg c_8]) rfl) (rsc_trans (rsc_rfl v) (rsc_w _ _ (by decide))) dX5_now_125

abbrev rmX5_count : Room := { frames := 2, cells := 0, slots := 0, locals := 44 }
set_option maxHeartbeats 4000000 in
set_option maxRecDepth 100000 in
theorem kX5_count (l : Launch) (g : GG) (n : Nat) (v : SV) (x : Int32) (N : Nat) (hR : Rl v N) : Met l yX5_count wsX5_count rmX5_count (PW g n v [.ref (gA g 0), .int x]) (QP g n v (fun u => countM u x)) 0 0 (wA g n) := by
  refine Met.begin RX5 rfl (by decide) rfl (Nat.le_of_ble_eq_true rfl) ?_
  intro p e s m args below meth c ls ha C hP hS hl
  have hn : 64 ≤ n := C.2.1.1.2.1
  have hi0 : ∀ w ∈ u_ws RX0 TX0 6, w ∈ wsX5_count := by decide +kernel
  have hi2 : ∀ w ∈ u_ws RX2 TX2 11, w ∈ wsX5_count := by decide +kernel
  have hi3 : ∀ w ∈ u_ws RX3 TX3 6, w ∈ wsX5_count := by decide +kernel
  have hi5 : ∀ w ∈ u_ws RX5 TX5 8, w ∈ wsX5_count := by decide +kernel
  have hl : lv_has ls 2 [(0, .ref (gA g 0)), (1, .int x)] := hl
  have hC := hR.1.1
  have hA := hR.1.2
  have h8 := hC.1
  have hD : okC (v.1 54) N := okC_agr (agr_symm hA) hC
  have hM := okC_M hD
  refine lv_iload_n C.1.1 C.1.2.1 dX5_count_0 rfl (lv_at hl 1 rfl) ?_
  by_cases c_1 : x = 0
  · refine lv_topE 0 c_1 ?_
    refine lv_tableIn (off := 47) (tgt := 48) C.1.1 C.1.2.1 dX5_count_1 (by decide) (by decide) rfl (by decide) ?_
    refine lv_aload_n C.1.1 C.1.2.1 dX5_count_48 rfl (lv_at hl 0 rfl) ?_
    refine r_get C hP 0 5 (Nat.lt_of_lt_of_le (by decide) hn) rfl (by decide) rfl hi5 0 (by decide) (List.mem_of_getElem? (i := 1) rfl) rfl (val := .ref (gA g 1)) rfl dX5_count_49 ?_
    refine r_get C hP 1 2 (Nat.lt_of_lt_of_le (by decide) hn) rfl (by decide) rfl hi2 6 (by decide) (List.mem_of_getElem? (i := 2) rfl) rfl (val := .int (v.1 1 6)) rfl dX5_count_52 ?_
    refine lv_topE (v.1 54 1) ((scr_rd (i := 1) (sam_rfl v).1 (sl_k rfl) (by decide)).trans (agr_lo (agr_symm hA) (by decide))) ?_
    exact t_P C rfl hP hS (ps_eq (u := v) hR (show countM v x = (v.1 54 1, v) from by simp only [countM, nM_eq hM, if_pos c_1]) rfl (sam_rfl v)) (rsc_rfl v) dX5_count_55
  by_cases c_2 : x = 1
  · refine lv_topE 1 c_2 ?_
    refine lv_tableIn (off := 55) (tgt := 56) C.1.1 C.1.2.1 dX5_count_1 (by decide) (by decide) rfl (by decide) ?_
    refine lv_aload_n C.1.1 C.1.2.1 dX5_count_56 rfl (lv_at hl 0 rfl) ?_
    refine r_get C hP 0 5 (Nat.lt_of_lt_of_le (by decide) hn) rfl (by decide) rfl hi5 0 (by decide) (List.mem_of_getElem? (i := 1) rfl) rfl (val := .ref (gA g 1)) rfl dX5_count_57 ?_
    refine r_get C hP 1 2 (Nat.lt_of_lt_of_le (by decide) hn) rfl (by decide) rfl hi2 8 (by decide) (List.mem_of_getElem? (i := 3) rfl) rfl (val := .int (v.1 1 8)) rfl dX5_count_60 ?_
    refine lv_topE (nI N) ((scr_rd (i := 0) (sam_rfl v).1 (sl_k rfl) (by decide)).trans hC.2.1) ?_
    exact t_P C rfl hP hS (ps_eq (u := v) hR (show countM v x = (v.1 54 0, v) from by simp only [countM, nM_eq hM, if_neg c_1, if_pos c_2]) hD.2.1.symm (sam_rfl v)) (rsc_rfl v) dX5_count_63
  by_cases c_3 : x = 2
  · refine lv_topE 2 c_3 ?_
    refine lv_tableIn (off := 63) (tgt := 64) C.1.1 C.1.2.1 dX5_count_1 (by decide) (by decide) rfl (by decide) ?_
    refine lv_aload_n C.1.1 C.1.2.1 dX5_count_64 rfl (lv_at hl 0 rfl) ?_
    refine r_get C hP 0 5 (Nat.lt_of_lt_of_le (by decide) hn) rfl (by decide) rfl hi5 0 (by decide) (List.mem_of_getElem? (i := 1) rfl) rfl (val := .ref (gA g 1)) rfl dX5_count_65 ?_
    refine r_get C hP 1 2 (Nat.lt_of_lt_of_le (by decide) hn) rfl (by decide) rfl hi2 5 (by decide) (List.mem_of_getElem? (i := 4) rfl) rfl (val := .int (v.1 1 5)) rfl dX5_count_68 ?_
    refine lv_topE (v.1 54 6) ((scr_rd (i := 6) (sam_rfl v).1 (sl_k rfl) (by decide)).trans (agr_lo (agr_symm hA) (by decide))) ?_
    exact t_P C rfl hP hS (ps_eq (u := v) hR (show countM v x = (v.1 54 6, v) from by simp only [countM, nM_eq hM, if_neg c_1, if_neg c_2, if_pos c_3]) rfl (sam_rfl v)) (rsc_rfl v) dX5_count_71
  by_cases c_4 : x = 3
  · refine lv_topE 3 c_4 ?_
    refine lv_tableIn (off := 71) (tgt := 72) C.1.1 C.1.2.1 dX5_count_1 (by decide) (by decide) rfl (by decide) ?_
    refine lv_aload_n C.1.1 C.1.2.1 dX5_count_72 rfl (lv_at hl 0 rfl) ?_
    refine r_get C hP 0 5 (Nat.lt_of_lt_of_le (by decide) hn) rfl (by decide) rfl hi5 0 (by decide) (List.mem_of_getElem? (i := 1) rfl) rfl (val := .ref (gA g 1)) rfl dX5_count_73 ?_
    refine a_F hS (run_V C hP hS hl.1 1 2 (Nat.lt_of_lt_of_le (by decide) hn) rfl (by decide) rfl [] (kX2_allStood l g n v v 1 (stR v 1) N (Or.inl rfl) (scr_self (sam_rfl v).1) hC) gX5_count_X2_allStood rfl hdX2_allStood rfl ⟨rfl, rfl⟩ ⟨Nat.le_of_ble_eq_true rfl, Nat.le_of_ble_eq_true rfl⟩ rfl [] rfl (Nat.le_of_ble_eq_true rfl) dX5_count_76 ⟨Nat.zero_le _, Nat.zero_le _⟩) (fun H locs hP hS => ?_)
    refine lv_topE (sumM (v.1 54) 4 N) (sum_cong (agr_symm hA) h8 (by decide) N (Nat.le_refl N)) ?_
    exact t_P C rfl hP hS (ps_eq (u := v) hR (show countM v x = (sumM (v.1 54) 4 N, v) from by simp only [countM, nM_eq hM, if_neg c_1, if_neg c_2, if_neg c_3, if_pos c_4]) rfl (sam_rfl v)) (rsc_rfl v) dX5_count_79
  by_cases c_5 : x = 4
  · refine lv_topE 4 c_5 ?_
    refine lv_tableIn (off := 79) (tgt := 80) C.1.1 C.1.2.1 dX5_count_1 (by decide) (by decide) rfl (by decide) ?_
    refine lv_aload_n C.1.1 C.1.2.1 dX5_count_80 rfl (lv_at hl 0 rfl) ?_
    refine r_get C hP 0 5 (Nat.lt_of_lt_of_le (by decide) hn) rfl (by decide) rfl hi5 0 (by decide) (List.mem_of_getElem? (i := 1) rfl) rfl (val := .ref (gA g 1)) rfl dX5_count_81 ?_
    refine a_F hS (run_V C hP hS hl.1 1 2 (Nat.lt_of_lt_of_le (by decide) hn) rfl (by decide) rfl [] (kX2_allHope l g n v v 1 (stR v 1) N (Or.inl rfl) (scr_self (sam_rfl v).1) hC) gX5_count_X2_allHope rfl hdX2_allHope rfl ⟨rfl, rfl⟩ ⟨Nat.le_of_ble_eq_true rfl, Nat.le_of_ble_eq_true rfl⟩ rfl [] rfl (Nat.le_of_ble_eq_true rfl) dX5_count_84 ⟨Nat.zero_le _, Nat.zero_le _⟩) (fun H locs hP hS => ?_)
    refine lv_topE (sumM (v.1 54) 3 N) (sum_cong (agr_symm hA) h8 (by decide) N (Nat.le_refl N)) ?_
    exact t_P C rfl hP hS (ps_eq (u := v) hR (show countM v x = (sumM (v.1 54) 3 N, v) from by simp only [countM, nM_eq hM, if_neg c_1, if_neg c_2, if_neg c_3, if_neg c_4, if_pos c_5]) rfl (sam_rfl v)) (rsc_rfl v) dX5_count_87
  by_cases c_6 : x = 5
  · refine lv_topE 5 c_6 ?_
    refine lv_tableIn (off := 87) (tgt := 88) C.1.1 C.1.2.1 dX5_count_1 (by decide) (by decide) rfl (by decide) ?_
    refine lv_aload_n C.1.1 C.1.2.1 dX5_count_88 rfl (lv_at hl 0 rfl) ?_
    refine r_get C hP 0 5 (Nat.lt_of_lt_of_le (by decide) hn) rfl (by decide) rfl hi5 5 (by decide) (List.mem_of_getElem? (i := 5) rfl) rfl (val := .ref (gA g 41)) rfl dX5_count_89 ?_
    refine r_get C hP 41 3 (Nat.lt_of_lt_of_le (by decide) hn) rfl (by decide) rfl hi3 1 (by decide) (List.mem_of_getElem? (i := 6) rfl) rfl (val := .int (v.1 41 1)) rfl dX5_count_92 ?_
    refine lv_topE (v.1 53 7) (hR.2.2.1.elim (fun _ q => q.2.2.1.trans q.2.1.symm)) ?_
    exact t_P C rfl hP hS (ps_eq (u := v) hR (show countM v x = (v.1 53 7, v) from by simp only [countM, nM_eq hM, if_neg c_1, if_neg c_2, if_neg c_3, if_neg c_4, if_neg c_5, if_pos c_6]) rfl (sam_rfl v)) (rsc_rfl v) dX5_count_95
  by_cases c_7 : x = 6
  · refine lv_topE 6 c_7 ?_
    refine lv_tableIn (off := 95) (tgt := 96) C.1.1 C.1.2.1 dX5_count_1 (by decide) (by decide) rfl (by decide) ?_
    refine lv_aload_n C.1.1 C.1.2.1 dX5_count_96 rfl (lv_at hl 0 rfl) ?_
    refine r_get C hP 0 5 (Nat.lt_of_lt_of_le (by decide) hn) rfl (by decide) rfl hi5 0 (by decide) (List.mem_of_getElem? (i := 1) rfl) rfl (val := .ref (gA g 1)) rfl dX5_count_97 ?_
    refine r_get C hP 1 2 (Nat.lt_of_lt_of_le (by decide) hn) rfl (by decide) rfl hi2 7 (by decide) (List.mem_of_getElem? (i := 7) rfl) rfl (val := .int (v.1 1 7)) rfl dX5_count_100 ?_
    refine lv_topE (v.1 54 2) ((scr_rd (i := 2) (sam_rfl v).1 (sl_k rfl) (by decide)).trans (agr_lo (agr_symm hA) (by decide))) ?_
    exact t_P C rfl hP hS (ps_eq (u := v) hR (show countM v x = (v.1 54 2, v) from by simp only [countM, nM_eq hM, if_neg c_1, if_neg c_2, if_neg c_3, if_neg c_4, if_neg c_5, if_neg c_6, if_pos c_7]) rfl (sam_rfl v)) (rsc_rfl v) dX5_count_103
  by_cases c_8 : x = 7
  · refine lv_topE 7 c_8 ?_
    refine lv_tableIn (off := 103) (tgt := 104) C.1.1 C.1.2.1 dX5_count_1 (by decide) (by decide) rfl (by decide) ?_
    refine lv_aload_n C.1.1 C.1.2.1 dX5_count_104 rfl (lv_at hl 0 rfl) ?_
    refine r_get C hP 0 5 (Nat.lt_of_lt_of_le (by decide) hn) rfl (by decide) rfl hi5 0 (by decide) (List.mem_of_getElem? (i := 1) rfl) rfl (val := .ref (gA g 1)) rfl dX5_count_105 ?_
    refine a_F hS (run_V C hP hS hl.1 1 2 (Nat.lt_of_lt_of_le (by decide) hn) rfl (by decide) rfl [] (kX2_heldSpots l g n v v 1 (stR v 1) N (Or.inl rfl) (scr_self (sam_rfl v).1) hC) gX5_count_X2_heldSpots rfl hdX2_heldSpots rfl ⟨rfl, rfl⟩ ⟨Nat.le_of_ble_eq_true rfl, Nat.le_of_ble_eq_true rfl⟩ rfl [] rfl (Nat.le_of_ble_eq_true rfl) dX5_count_108 ⟨Nat.zero_le _, Nat.zero_le _⟩) (fun H locs hP hS => ?_)
    refine lv_topE (holdM (v.1 54) 10) ((hs_cong (agr_symm hA) 10 (by decide)).trans (hold_hs hD 10 (by decide))) ?_
    exact t_P C rfl hP hS (ps_eq (u := v) hR (show countM v x = (holdM (v.1 54) 10, v) from by simp only [countM, nM_eq hM, if_neg c_1, if_neg c_2, if_neg c_3, if_neg c_4, if_neg c_5, if_neg c_6, if_neg c_7, if_pos c_8]) rfl (sam_rfl v)) (rsc_rfl v) dX5_count_111
  have hsw : x.toInt < 0 ∨ 7 < x.toInt := by
    have qc_1 := lv_neT (a := 0) c_1 rfl
    have qc_2 := lv_neT (a := 1) c_2 rfl
    have qc_3 := lv_neT (a := 2) c_3 rfl
    have qc_4 := lv_neT (a := 3) c_4 rfl
    have qc_5 := lv_neT (a := 4) c_5 rfl
    have qc_6 := lv_neT (a := 5) c_6 rfl
    have qc_7 := lv_neT (a := 6) c_7 rfl
    have qc_8 := lv_neT (a := 7) c_8 rfl
    omega
  refine lv_tableOut (tgt := 112) C.1.1 C.1.2.1 dX5_count_1 hsw (by decide) ?_
  refine lv_aload_n C.1.1 C.1.2.1 dX5_count_112 rfl (lv_at hl 0 rfl) ?_
  refine lv_ldc (v := (-1000001)) C.1.1 C.1.2.1 C.1.2.2.2.1 (C.1.2.2.2.2 _ (List.mem_of_getElem? (i := 8) rfl)) dX5_count_113 ?_
  refine a_F hS (run_V C hP hS hl.1 0 5 (Nat.lt_of_lt_of_le (by decide) hn) rfl (by decide) rfl [.int (-1000001)] (kX5_finding l g n v 0 (by decide) (-1000001) rfl) gX5_count_X5_finding rfl hdX5_finding rfl ⟨rfl, rfl⟩ ⟨Nat.le_of_ble_eq_true rfl, Nat.le_of_ble_eq_true rfl⟩ rfl [] rfl (Nat.le_of_ble_eq_true rfl) dX5_count_115 ⟨Nat.zero_le _, Nat.zero_le _⟩) (fun H locs hP hS => ?_)
  have e54_9 : (fnC v 0).1 54 = v.1 54 := (upw_ne _ _ (by decide))
  exact t_P C rfl hP hS (ps_fd (f := fun u => countM u x) hR (sam_rfl v) (by decide) (by simp only [countM, nM_of e54_9 hM, e54_9, if_neg c_1, if_neg c_2, if_neg c_3, if_neg c_4, if_neg c_5, if_neg c_6, if_neg c_7, if_neg c_8]) rfl) (rsc_trans (rsc_rfl v) (rsc_w _ _ (by decide))) dX5_count_118

abbrev rmX5_ahead : Room := { frames := 7, cells := 0, slots := 0, locals := 155 }
set_option maxHeartbeats 4000000 in
set_option maxRecDepth 100000 in
theorem kX5_ahead (l : Launch) (g : GG) (n : Nat) (v : SV) (x y z : Int32) (N : Nat) (hR : Rl v N) : Met l yX5_ahead wsX5_ahead rmX5_ahead (PW g n v [.ref (gA g 0), .int x, .int y, .int z]) (QP g n v (fun u => aheadM u x y z)) 0 0 (wA g n) := by
  refine Met.begin RX5 rfl (by decide) rfl (Nat.le_of_ble_eq_true rfl) ?_
  intro p e s m args below meth c ls ha C hP hS hl
  have hn : 64 ≤ n := C.2.1.1.2.1
  have hi0 : ∀ w ∈ u_ws RX0 TX0 6, w ∈ wsX5_ahead := by decide +kernel
  have hi2 : ∀ w ∈ u_ws RX2 TX2 11, w ∈ wsX5_ahead := by decide +kernel
  have hi5 : ∀ w ∈ u_ws RX5 TX5 8, w ∈ wsX5_ahead := by decide +kernel
  have hl : lv_has ls 5 [(0, .ref (gA g 0)), (1, .int x), (2, .int y), (3, .int z)] := hl
  have hC := hR.1.1
  have hA := hR.1.2
  have h8 := hC.1
  have hD : okC (v.1 54) N := okC_agr (agr_symm hA) hC
  have hM := okC_M hD
  refine lv_iload_n C.1.1 C.1.2.1 dX5_ahead_0 rfl (lv_at hl 2 rfl) ?_
  refine lv_iconst (v := 2) C.1.1 C.1.2.1 dX5_ahead_1 rfl ?_
  refine lv_iconst (v := 4) C.1.1 C.1.2.1 dX5_ahead_2 rfl ?_
  refine a_B hS (run_S C hP hS hl.1 [.int y, .int 2, .int 4] (kX5_isWithin l g n v y 2 4) gX5_ahead_X5_isWithin hdX5_isWithin rfl ⟨rfl, rfl⟩ ⟨Nat.le_of_ble_eq_true rfl, Nat.le_of_ble_eq_true rfl⟩ rfl [] rfl (Nat.le_of_ble_eq_true rfl) dX5_ahead_3 ⟨Nat.zero_le _, Nat.zero_le _⟩) (fun b_1 H locs hP hS => ?_) (fun b_1 H locs hP hS => ?_)
  · skip
    have b_1 := (in_iffC2 2 5 (by decide) (by decide) (by decide)).mp b_1
    have kb_1 := b_1
    obtain ⟨jy, hljy, hjy, rfl⟩ := b_1
    refine lv_if_ne (tgt := 15) C.1.1 C.1.2.1 dX5_ahead_6 (by decide) (fun _ => ?_) (fun c_2 => absurd c_2 (by decide))
    refine lv_iconst (v := 1) C.1.1 C.1.2.1 dX5_ahead_15 rfl ?_
    refine lv_goto (tgt := 20) C.1.1 C.1.2.1 dX5_ahead_16 (by decide) ?_
    refine lv_istore (lv' := [(4, .int 1), (0, .ref (gA g 0)), (1, .int x), (2, .int (nI jy)), (3, .int z)]) C.1.1 C.1.2.1 dX5_ahead_20 hl (by decide) rfl (fun ls hl => ?_)
    refine lv_aload_n C.1.1 C.1.2.1 dX5_ahead_22 rfl (lv_at hl 1 rfl) ?_
    refine r_get C hP 0 5 (Nat.lt_of_lt_of_le (by decide) hn) rfl (by decide) rfl hi5 0 (by decide) (List.mem_of_getElem? (i := 1) rfl) rfl (val := .ref (gA g 1)) rfl dX5_ahead_23 ?_
    refine lv_iload_n C.1.1 C.1.2.1 dX5_ahead_26 rfl (lv_at hl 2 rfl) ?_
    refine a_B hS (run_V C hP hS hl.1 1 2 (Nat.lt_of_lt_of_le (by decide) hn) rfl (by decide) rfl [.int x] (kX2_has l g n v x v 1 (stR v 1) N (Or.inl rfl) (scr_self (sam_rfl v).1) hC) gX5_ahead_X2_has rfl hdX2_has rfl ⟨rfl, rfl⟩ ⟨Nat.le_of_ble_eq_true rfl, Nat.le_of_ble_eq_true rfl⟩ rfl [] rfl (Nat.le_of_ble_eq_true rfl) dX5_ahead_27 ⟨Nat.zero_le _, Nat.zero_le _⟩) (fun b_3 H locs hP hS => ?_) (fun b_3 H locs hP hS => ?_)
    · skip
      have kb_3 := b_3
      obtain ⟨jx, hjx, rfl⟩ := b_3
      refine lv_if_eq (tgt := 48) C.1.1 C.1.2.1 dX5_ahead_30 (by decide) (fun c_4 => absurd c_4 (by decide)) (fun _ => ?_)
      refine lv_iload C.1.1 C.1.2.1 dX5_ahead_33 (lv_at hl 0 rfl) ?_
      refine lv_if_eq (tgt := 48) C.1.1 C.1.2.1 dX5_ahead_35 (by decide) (fun c_5 => absurd c_5 (by decide)) (fun _ => ?_)
      refine lv_iload_n C.1.1 C.1.2.1 dX5_ahead_38 rfl (lv_at hl 4 rfl) ?_
      refine lv_iconst (v := 0) C.1.1 C.1.2.1 dX5_ahead_39 rfl ?_
      refine lv_bipush (v := 100) C.1.1 C.1.2.1 dX5_ahead_40 rfl ?_
      refine a_B hS (run_S C hP hS hl.1 [.int z, .int 0, .int 100] (kX5_isWithin l g n v z 0 100) gX5_ahead_X5_isWithin hdX5_isWithin rfl ⟨rfl, rfl⟩ ⟨Nat.le_of_ble_eq_true rfl, Nat.le_of_ble_eq_true rfl⟩ rfl [] rfl (Nat.le_of_ble_eq_true rfl) dX5_ahead_42 ⟨Nat.zero_le _, Nat.zero_le _⟩) (fun b_6 H locs hP hS => ?_) (fun b_6 H locs hP hS => ?_)
      · skip
        have b_6 := (in_iffC 101 (by decide) (by decide)).mp b_6
        have kb_6 := b_6
        obtain ⟨jz, hjz, rfl⟩ := b_6
        refine lv_if_ne (tgt := 55) C.1.1 C.1.2.1 dX5_ahead_45 (by decide) (fun _ => ?_) (fun c_7 => absurd c_7 (by decide))
        refine lv_aload_n C.1.1 C.1.2.1 dX5_ahead_55 rfl (lv_at hl 1 rfl) ?_
        refine r_get C hP 0 5 (Nat.lt_of_lt_of_le (by decide) hn) rfl (by decide) rfl hi5 1 (by decide) (List.mem_of_getElem? (i := 3) rfl) rfl (val := .ref (gA g 14)) rfl dX5_ahead_56 ?_
        refine lv_aload_n C.1.1 C.1.2.1 dX5_ahead_59 rfl (lv_at hl 1 rfl) ?_
        refine r_get C hP 0 5 (Nat.lt_of_lt_of_le (by decide) hn) rfl (by decide) rfl hi5 0 (by decide) (List.mem_of_getElem? (i := 1) rfl) rfl (val := .ref (gA g 1)) rfl dX5_ahead_60 ?_
        refine a_G hS (run_V C hP hS hl.1 14 2 (Nat.lt_of_lt_of_le (by decide) hn) rfl (by decide) rfl [.ref (gA g 1)] (kX2_become l g n v v 14 (stR v 14) 1 N (Or.inr (Or.inl rfl)) (Or.inl rfl) (by decide) (st_self _ 14).symm (by rw [scr_1 (sam_rfl v).1]; exact hC)) gX5_ahead_X2_become rfl hdX2_become rfl ⟨rfl, rfl⟩ ⟨Nat.le_of_ble_eq_true rfl, Nat.le_of_ble_eq_true rfl⟩ rfl [] rfl (Nat.le_of_ble_eq_true rfl) dX5_ahead_63 ⟨Nat.zero_le _, Nat.zero_le _⟩) (fun H locs hP hS => ?_)
        obtain ⟨X_8, hX_8⟩ : ∃ zz, zz = becM (stR v 14) (stR v 1) N := ⟨_, rfl⟩
        rw [← hX_8] at hP
        have aX_8 : agr N (stR v 1) X_8 := by rw [hX_8, scr_1 (sam_rfl v).1]; exact bec_agr _ _ _
        have cX_8 : okC X_8 N := okC_agr aX_8 hC
        refine lv_aload_n C.1.1 C.1.2.1 dX5_ahead_66 rfl (lv_at hl 1 rfl) ?_
        refine r_get C hP 0 5 (Nat.lt_of_lt_of_le (by decide) hn) rfl (by decide) rfl hi5 1 (by decide) (List.mem_of_getElem? (i := 3) rfl) rfl (val := .ref (gA g 14)) rfl dX5_ahead_67 ?_
        refine lv_iload_n C.1.1 C.1.2.1 dX5_ahead_70 rfl (lv_at hl 4 rfl) ?_
        refine a_G hS (run_V C hP hS hl.1 14 2 (Nat.lt_of_lt_of_le (by decide) hn) rfl (by decide) rfl [.int (nI jz)] (kX2_passDays l g n (stW v 14 X_8) jz (by omega) v 14 X_8 N (Or.inr (Or.inl rfl)) rfl cX_8) gX5_ahead_X2_passDays rfl hdX2_passDays rfl ⟨rfl, rfl⟩ ⟨Nat.le_of_ble_eq_true rfl, Nat.le_of_ble_eq_true rfl⟩ rfl [] rfl (Nat.le_of_ble_eq_true rfl) dX5_ahead_71 ⟨Nat.zero_le _, Nat.zero_le _⟩) (fun H locs hP hS => ?_)
        refine lv_aload_n C.1.1 C.1.2.1 dX5_ahead_74 rfl (lv_at hl 1 rfl) ?_
        refine r_get C hP 0 5 (Nat.lt_of_lt_of_le (by decide) hn) rfl (by decide) rfl hi5 1 (by decide) (List.mem_of_getElem? (i := 3) rfl) rfl (val := .ref (gA g 14)) rfl dX5_ahead_75 ?_
        refine lv_iload_n C.1.1 C.1.2.1 dX5_ahead_78 rfl (lv_at hl 2 rfl) ?_
        refine lv_iload_n C.1.1 C.1.2.1 dX5_ahead_79 rfl (lv_at hl 3 rfl) ?_
        refine a_F hS (run_V C hP hS hl.1 14 2 (Nat.lt_of_lt_of_le (by decide) hn) rfl (by decide) rfl [.int (nI jx), .int (nI jy)] (kX2_tell l g n (stW v 14 (daysM X_8 jz)) jx (nI jy) v 14 (daysM X_8 jz) N (Or.inr (Or.inl rfl)) rfl (okC_days cX_8 jz) hjx) gX5_ahead_X2_tell rfl hdX2_tell rfl ⟨rfl, rfl⟩ ⟨Nat.le_of_ble_eq_true rfl, Nat.le_of_ble_eq_true rfl⟩ rfl [] rfl (Nat.le_of_ble_eq_true rfl) dX5_ahead_80 ⟨Nat.zero_le _, Nat.zero_le _⟩) (fun H locs hP hS => ?_)
        refine lv_topE (tellF (rowM (daysM (v.1 54) jz) jx) (nI jy) ((daysM (v.1 54) jz) 3) ((daysM (v.1 54) jz) 5)) (tell_agr (agr_days (agr_symm (agr_trans hA aX_8)) (okC_M cX_8) jz) hjx h8) ?_
        have e54_9 : (stW v 14 (daysM X_8 jz)).1 54 = v.1 54 := (st_far (by decide))
        exact t_P C rfl hP hS (ps_eq (u := stW v 14 (daysM X_8 jz)) hR (show aheadM (stW v 14 (daysM X_8 jz)) (nI jx) (nI jy) (nI jz) = (tellF (rowM (daysM (v.1 54) jz) jx) (nI jy) ((daysM (v.1 54) jz) 3) ((daysM (v.1 54) jz) 5), asideM (stW v 14 (daysM X_8 jz))) from by simp only [aheadM, nM_of e54_9 hM, e54_9, cif_pos kb_1, cif_pos kb_3, cif_pos kb_6, tn_nI (show jy < 2 ^ 31 by omega), tn_nI (show jx < 2 ^ 31 by omega), tn_nI (show jz < 2 ^ 31 by omega)]) rfl (sam_trans (sam_trans (sam_rfl v) (sam_14 _ _)) (sam_aside _))) (rsc_trans (rsc_rfl v) (rsc_st _ _ (by decide))) dX5_ahead_83
      · skip
        have b_6 := fun h => b_6 ((in_iffC 101 (by decide) (by decide)).mpr h)
        refine lv_if_ne (tgt := 55) C.1.1 C.1.2.1 dX5_ahead_45 (by decide) (fun c_10 => absurd c_10 (by decide)) (fun _ => ?_)
        refine lv_aload_n C.1.1 C.1.2.1 dX5_ahead_48 rfl (lv_at hl 1 rfl) ?_
        refine lv_ldc (v := (-1000001)) C.1.1 C.1.2.1 C.1.2.2.2.1 (C.1.2.2.2.2 _ (List.mem_of_getElem? (i := 2) rfl)) dX5_ahead_49 ?_
        refine a_F hS (run_V C hP hS hl.1 0 5 (Nat.lt_of_lt_of_le (by decide) hn) rfl (by decide) rfl [.int (-1000001)] (kX5_finding l g n v 0 (by decide) (-1000001) rfl) gX5_ahead_X5_finding rfl hdX5_finding rfl ⟨rfl, rfl⟩ ⟨Nat.le_of_ble_eq_true rfl, Nat.le_of_ble_eq_true rfl⟩ rfl [] rfl (Nat.le_of_ble_eq_true rfl) dX5_ahead_51 ⟨Nat.zero_le _, Nat.zero_le _⟩) (fun H locs hP hS => ?_)
        have e54_11 : (fnC v 0).1 54 = v.1 54 := (upw_ne _ _ (by decide))
        exact t_P C rfl hP hS (ps_fd (f := fun u => aheadM u (nI jx) (nI jy) z) hR (sam_rfl v) (by decide) (by simp only [aheadM, nM_of e54_11 hM, e54_11, cif_pos kb_1, cif_pos kb_3, cif_neg b_6, tn_nI (show jy < 2 ^ 31 by omega), tn_nI (show jx < 2 ^ 31 by omega)]) rfl) (rsc_trans (rsc_rfl v) (rsc_w _ _ (by decide))) dX5_ahead_54
    · skip
      refine lv_if_eq (tgt := 48) C.1.1 C.1.2.1 dX5_ahead_30 (by decide) (fun _ => ?_) (fun c_12 => absurd c_12 (by decide))
      refine lv_aload_n C.1.1 C.1.2.1 dX5_ahead_48 rfl (lv_at hl 1 rfl) ?_
      refine lv_ldc (v := (-1000001)) C.1.1 C.1.2.1 C.1.2.2.2.1 (C.1.2.2.2.2 _ (List.mem_of_getElem? (i := 2) rfl)) dX5_ahead_49 ?_
      refine a_F hS (run_V C hP hS hl.1 0 5 (Nat.lt_of_lt_of_le (by decide) hn) rfl (by decide) rfl [.int (-1000001)] (kX5_finding l g n v 0 (by decide) (-1000001) rfl) gX5_ahead_X5_finding rfl hdX5_finding rfl ⟨rfl, rfl⟩ ⟨Nat.le_of_ble_eq_true rfl, Nat.le_of_ble_eq_true rfl⟩ rfl [] rfl (Nat.le_of_ble_eq_true rfl) dX5_ahead_51 ⟨Nat.zero_le _, Nat.zero_le _⟩) (fun H locs hP hS => ?_)
      have e54_13 : (fnC v 0).1 54 = v.1 54 := (upw_ne _ _ (by decide))
      exact t_P C rfl hP hS (ps_fd (f := fun u => aheadM u x (nI jy) z) hR (sam_rfl v) (by decide) (by simp only [aheadM, nM_of e54_13 hM, e54_13, cif_pos kb_1, cif_neg b_3, tn_nI (show jy < 2 ^ 31 by omega)]) rfl) (rsc_trans (rsc_rfl v) (rsc_w _ _ (by decide))) dX5_ahead_54
  · skip
    have b_1 := fun h => b_1 ((in_iffC2 2 5 (by decide) (by decide) (by decide)).mpr h)
    refine lv_if_ne (tgt := 15) C.1.1 C.1.2.1 dX5_ahead_6 (by decide) (fun c_14 => absurd c_14 (by decide)) (fun _ => ?_)
    refine lv_iload_n C.1.1 C.1.2.1 dX5_ahead_9 rfl (lv_at hl 2 rfl) ?_
    refine lv_bipush (v := 6) C.1.1 C.1.2.1 dX5_ahead_10 rfl ?_
    refine lv_icmp_ne (tgt := 19) C.1.1 C.1.2.1 dX5_ahead_12 (by decide) (fun c_15 => ?_) (fun c_15 => ?_)
    · skip
      refine lv_iconst (v := 0) C.1.1 C.1.2.1 dX5_ahead_19 rfl ?_
      refine lv_istore (lv' := [(4, .int 0), (0, .ref (gA g 0)), (1, .int x), (2, .int y), (3, .int z)]) C.1.1 C.1.2.1 dX5_ahead_20 hl (by decide) rfl (fun ls hl => ?_)
      refine lv_aload_n C.1.1 C.1.2.1 dX5_ahead_22 rfl (lv_at hl 1 rfl) ?_
      refine r_get C hP 0 5 (Nat.lt_of_lt_of_le (by decide) hn) rfl (by decide) rfl hi5 0 (by decide) (List.mem_of_getElem? (i := 1) rfl) rfl (val := .ref (gA g 1)) rfl dX5_ahead_23 ?_
      refine lv_iload_n C.1.1 C.1.2.1 dX5_ahead_26 rfl (lv_at hl 2 rfl) ?_
      refine a_B hS (run_V C hP hS hl.1 1 2 (Nat.lt_of_lt_of_le (by decide) hn) rfl (by decide) rfl [.int x] (kX2_has l g n v x v 1 (stR v 1) N (Or.inl rfl) (scr_self (sam_rfl v).1) hC) gX5_ahead_X2_has rfl hdX2_has rfl ⟨rfl, rfl⟩ ⟨Nat.le_of_ble_eq_true rfl, Nat.le_of_ble_eq_true rfl⟩ rfl [] rfl (Nat.le_of_ble_eq_true rfl) dX5_ahead_27 ⟨Nat.zero_le _, Nat.zero_le _⟩) (fun b_16 H locs hP hS => ?_) (fun b_16 H locs hP hS => ?_)
      · skip
        have kb_16 := b_16
        obtain ⟨jx, hjx, rfl⟩ := b_16
        refine lv_if_eq (tgt := 48) C.1.1 C.1.2.1 dX5_ahead_30 (by decide) (fun c_17 => absurd c_17 (by decide)) (fun _ => ?_)
        refine lv_iload C.1.1 C.1.2.1 dX5_ahead_33 (lv_at hl 0 rfl) ?_
        refine lv_if_eq (tgt := 48) C.1.1 C.1.2.1 dX5_ahead_35 (by decide) (fun _ => ?_) (fun c_18 => absurd c_18 (by decide))
        refine lv_aload_n C.1.1 C.1.2.1 dX5_ahead_48 rfl (lv_at hl 1 rfl) ?_
        refine lv_ldc (v := (-1000001)) C.1.1 C.1.2.1 C.1.2.2.2.1 (C.1.2.2.2.2 _ (List.mem_of_getElem? (i := 2) rfl)) dX5_ahead_49 ?_
        refine a_F hS (run_V C hP hS hl.1 0 5 (Nat.lt_of_lt_of_le (by decide) hn) rfl (by decide) rfl [.int (-1000001)] (kX5_finding l g n v 0 (by decide) (-1000001) rfl) gX5_ahead_X5_finding rfl hdX5_finding rfl ⟨rfl, rfl⟩ ⟨Nat.le_of_ble_eq_true rfl, Nat.le_of_ble_eq_true rfl⟩ rfl [] rfl (Nat.le_of_ble_eq_true rfl) dX5_ahead_51 ⟨Nat.zero_le _, Nat.zero_le _⟩) (fun H locs hP hS => ?_)
        have e54_19 : (fnC v 0).1 54 = v.1 54 := (upw_ne _ _ (by decide))
        exact t_P C rfl hP hS (ps_fd (f := fun u => aheadM u (nI jx) y z) hR (sam_rfl v) (by decide) (by simp only [aheadM, nM_of e54_19 hM, e54_19, cif_neg b_1, if_neg c_15, cif_pos kb_16, tn_nI (show jx < 2 ^ 31 by omega)]) rfl) (rsc_trans (rsc_rfl v) (rsc_w _ _ (by decide))) dX5_ahead_54
      · skip
        refine lv_if_eq (tgt := 48) C.1.1 C.1.2.1 dX5_ahead_30 (by decide) (fun _ => ?_) (fun c_20 => absurd c_20 (by decide))
        refine lv_aload_n C.1.1 C.1.2.1 dX5_ahead_48 rfl (lv_at hl 1 rfl) ?_
        refine lv_ldc (v := (-1000001)) C.1.1 C.1.2.1 C.1.2.2.2.1 (C.1.2.2.2.2 _ (List.mem_of_getElem? (i := 2) rfl)) dX5_ahead_49 ?_
        refine a_F hS (run_V C hP hS hl.1 0 5 (Nat.lt_of_lt_of_le (by decide) hn) rfl (by decide) rfl [.int (-1000001)] (kX5_finding l g n v 0 (by decide) (-1000001) rfl) gX5_ahead_X5_finding rfl hdX5_finding rfl ⟨rfl, rfl⟩ ⟨Nat.le_of_ble_eq_true rfl, Nat.le_of_ble_eq_true rfl⟩ rfl [] rfl (Nat.le_of_ble_eq_true rfl) dX5_ahead_51 ⟨Nat.zero_le _, Nat.zero_le _⟩) (fun H locs hP hS => ?_)
        have e54_21 : (fnC v 0).1 54 = v.1 54 := (upw_ne _ _ (by decide))
        exact t_P C rfl hP hS (ps_fd (f := fun u => aheadM u x y z) hR (sam_rfl v) (by decide) (by simp only [aheadM, nM_of e54_21 hM, e54_21, cif_neg b_1, if_neg c_15, cif_neg b_16]) rfl) (rsc_trans (rsc_rfl v) (rsc_w _ _ (by decide))) dX5_ahead_54
    · skip
      refine lv_iconst (v := 1) C.1.1 C.1.2.1 dX5_ahead_15 rfl ?_
      refine lv_goto (tgt := 20) C.1.1 C.1.2.1 dX5_ahead_16 (by decide) ?_
      refine lv_istore (lv' := [(4, .int 1), (0, .ref (gA g 0)), (1, .int x), (2, .int y), (3, .int z)]) C.1.1 C.1.2.1 dX5_ahead_20 hl (by decide) rfl (fun ls hl => ?_)
      refine lv_aload_n C.1.1 C.1.2.1 dX5_ahead_22 rfl (lv_at hl 1 rfl) ?_
      refine r_get C hP 0 5 (Nat.lt_of_lt_of_le (by decide) hn) rfl (by decide) rfl hi5 0 (by decide) (List.mem_of_getElem? (i := 1) rfl) rfl (val := .ref (gA g 1)) rfl dX5_ahead_23 ?_
      refine lv_iload_n C.1.1 C.1.2.1 dX5_ahead_26 rfl (lv_at hl 2 rfl) ?_
      refine a_B hS (run_V C hP hS hl.1 1 2 (Nat.lt_of_lt_of_le (by decide) hn) rfl (by decide) rfl [.int x] (kX2_has l g n v x v 1 (stR v 1) N (Or.inl rfl) (scr_self (sam_rfl v).1) hC) gX5_ahead_X2_has rfl hdX2_has rfl ⟨rfl, rfl⟩ ⟨Nat.le_of_ble_eq_true rfl, Nat.le_of_ble_eq_true rfl⟩ rfl [] rfl (Nat.le_of_ble_eq_true rfl) dX5_ahead_27 ⟨Nat.zero_le _, Nat.zero_le _⟩) (fun b_22 H locs hP hS => ?_) (fun b_22 H locs hP hS => ?_)
      · skip
        have kb_22 := b_22
        obtain ⟨jx, hjx, rfl⟩ := b_22
        refine lv_if_eq (tgt := 48) C.1.1 C.1.2.1 dX5_ahead_30 (by decide) (fun c_23 => absurd c_23 (by decide)) (fun _ => ?_)
        refine lv_iload C.1.1 C.1.2.1 dX5_ahead_33 (lv_at hl 0 rfl) ?_
        refine lv_if_eq (tgt := 48) C.1.1 C.1.2.1 dX5_ahead_35 (by decide) (fun c_24 => absurd c_24 (by decide)) (fun _ => ?_)
        refine lv_iload_n C.1.1 C.1.2.1 dX5_ahead_38 rfl (lv_at hl 4 rfl) ?_
        refine lv_iconst (v := 0) C.1.1 C.1.2.1 dX5_ahead_39 rfl ?_
        refine lv_bipush (v := 100) C.1.1 C.1.2.1 dX5_ahead_40 rfl ?_
        refine a_B hS (run_S C hP hS hl.1 [.int z, .int 0, .int 100] (kX5_isWithin l g n v z 0 100) gX5_ahead_X5_isWithin hdX5_isWithin rfl ⟨rfl, rfl⟩ ⟨Nat.le_of_ble_eq_true rfl, Nat.le_of_ble_eq_true rfl⟩ rfl [] rfl (Nat.le_of_ble_eq_true rfl) dX5_ahead_42 ⟨Nat.zero_le _, Nat.zero_le _⟩) (fun b_25 H locs hP hS => ?_) (fun b_25 H locs hP hS => ?_)
        · skip
          have b_25 := (in_iffC 101 (by decide) (by decide)).mp b_25
          have kb_25 := b_25
          obtain ⟨jz, hjz, rfl⟩ := b_25
          refine lv_if_ne (tgt := 55) C.1.1 C.1.2.1 dX5_ahead_45 (by decide) (fun _ => ?_) (fun c_26 => absurd c_26 (by decide))
          refine lv_aload_n C.1.1 C.1.2.1 dX5_ahead_55 rfl (lv_at hl 1 rfl) ?_
          refine r_get C hP 0 5 (Nat.lt_of_lt_of_le (by decide) hn) rfl (by decide) rfl hi5 1 (by decide) (List.mem_of_getElem? (i := 3) rfl) rfl (val := .ref (gA g 14)) rfl dX5_ahead_56 ?_
          refine lv_aload_n C.1.1 C.1.2.1 dX5_ahead_59 rfl (lv_at hl 1 rfl) ?_
          refine r_get C hP 0 5 (Nat.lt_of_lt_of_le (by decide) hn) rfl (by decide) rfl hi5 0 (by decide) (List.mem_of_getElem? (i := 1) rfl) rfl (val := .ref (gA g 1)) rfl dX5_ahead_60 ?_
          refine a_G hS (run_V C hP hS hl.1 14 2 (Nat.lt_of_lt_of_le (by decide) hn) rfl (by decide) rfl [.ref (gA g 1)] (kX2_become l g n v v 14 (stR v 14) 1 N (Or.inr (Or.inl rfl)) (Or.inl rfl) (by decide) (st_self _ 14).symm (by rw [scr_1 (sam_rfl v).1]; exact hC)) gX5_ahead_X2_become rfl hdX2_become rfl ⟨rfl, rfl⟩ ⟨Nat.le_of_ble_eq_true rfl, Nat.le_of_ble_eq_true rfl⟩ rfl [] rfl (Nat.le_of_ble_eq_true rfl) dX5_ahead_63 ⟨Nat.zero_le _, Nat.zero_le _⟩) (fun H locs hP hS => ?_)
          obtain ⟨X_27, hX_27⟩ : ∃ zz, zz = becM (stR v 14) (stR v 1) N := ⟨_, rfl⟩
          rw [← hX_27] at hP
          have aX_27 : agr N (stR v 1) X_27 := by rw [hX_27, scr_1 (sam_rfl v).1]; exact bec_agr _ _ _
          have cX_27 : okC X_27 N := okC_agr aX_27 hC
          refine lv_aload_n C.1.1 C.1.2.1 dX5_ahead_66 rfl (lv_at hl 1 rfl) ?_
          refine r_get C hP 0 5 (Nat.lt_of_lt_of_le (by decide) hn) rfl (by decide) rfl hi5 1 (by decide) (List.mem_of_getElem? (i := 3) rfl) rfl (val := .ref (gA g 14)) rfl dX5_ahead_67 ?_
          refine lv_iload_n C.1.1 C.1.2.1 dX5_ahead_70 rfl (lv_at hl 4 rfl) ?_
          refine a_G hS (run_V C hP hS hl.1 14 2 (Nat.lt_of_lt_of_le (by decide) hn) rfl (by decide) rfl [.int (nI jz)] (kX2_passDays l g n (stW v 14 X_27) jz (by omega) v 14 X_27 N (Or.inr (Or.inl rfl)) rfl cX_27) gX5_ahead_X2_passDays rfl hdX2_passDays rfl ⟨rfl, rfl⟩ ⟨Nat.le_of_ble_eq_true rfl, Nat.le_of_ble_eq_true rfl⟩ rfl [] rfl (Nat.le_of_ble_eq_true rfl) dX5_ahead_71 ⟨Nat.zero_le _, Nat.zero_le _⟩) (fun H locs hP hS => ?_)
          refine lv_aload_n C.1.1 C.1.2.1 dX5_ahead_74 rfl (lv_at hl 1 rfl) ?_
          refine r_get C hP 0 5 (Nat.lt_of_lt_of_le (by decide) hn) rfl (by decide) rfl hi5 1 (by decide) (List.mem_of_getElem? (i := 3) rfl) rfl (val := .ref (gA g 14)) rfl dX5_ahead_75 ?_
          refine lv_iload_n C.1.1 C.1.2.1 dX5_ahead_78 rfl (lv_at hl 2 rfl) ?_
          refine lv_iload_n C.1.1 C.1.2.1 dX5_ahead_79 rfl (lv_at hl 3 rfl) ?_
          refine a_F hS (run_V C hP hS hl.1 14 2 (Nat.lt_of_lt_of_le (by decide) hn) rfl (by decide) rfl [.int (nI jx), .int y] (kX2_tell l g n (stW v 14 (daysM X_27 jz)) jx y v 14 (daysM X_27 jz) N (Or.inr (Or.inl rfl)) rfl (okC_days cX_27 jz) hjx) gX5_ahead_X2_tell rfl hdX2_tell rfl ⟨rfl, rfl⟩ ⟨Nat.le_of_ble_eq_true rfl, Nat.le_of_ble_eq_true rfl⟩ rfl [] rfl (Nat.le_of_ble_eq_true rfl) dX5_ahead_80 ⟨Nat.zero_le _, Nat.zero_le _⟩) (fun H locs hP hS => ?_)
          refine lv_topE (tellF (rowM (daysM (v.1 54) jz) jx) y ((daysM (v.1 54) jz) 3) ((daysM (v.1 54) jz) 5)) (tell_agr (agr_days (agr_symm (agr_trans hA aX_27)) (okC_M cX_27) jz) hjx h8) ?_
          have e54_28 : (stW v 14 (daysM X_27 jz)).1 54 = v.1 54 := (st_far (by decide))
          exact t_P C rfl hP hS (ps_eq (u := stW v 14 (daysM X_27 jz)) hR (show aheadM (stW v 14 (daysM X_27 jz)) (nI jx) y (nI jz) = (tellF (rowM (daysM (v.1 54) jz) jx) y ((daysM (v.1 54) jz) 3) ((daysM (v.1 54) jz) 5), asideM (stW v 14 (daysM X_27 jz))) from by simp only [aheadM, nM_of e54_28 hM, e54_28, cif_neg b_1, if_pos c_15, cif_pos kb_22, cif_pos kb_25, tn_nI (show jx < 2 ^ 31 by omega), tn_nI (show jz < 2 ^ 31 by omega)]) rfl (sam_trans (sam_trans (sam_rfl v) (sam_14 _ _)) (sam_aside _))) (rsc_trans (rsc_rfl v) (rsc_st _ _ (by decide))) dX5_ahead_83
        · skip
          have b_25 := fun h => b_25 ((in_iffC 101 (by decide) (by decide)).mpr h)
          refine lv_if_ne (tgt := 55) C.1.1 C.1.2.1 dX5_ahead_45 (by decide) (fun c_29 => absurd c_29 (by decide)) (fun _ => ?_)
          refine lv_aload_n C.1.1 C.1.2.1 dX5_ahead_48 rfl (lv_at hl 1 rfl) ?_
          refine lv_ldc (v := (-1000001)) C.1.1 C.1.2.1 C.1.2.2.2.1 (C.1.2.2.2.2 _ (List.mem_of_getElem? (i := 2) rfl)) dX5_ahead_49 ?_
          refine a_F hS (run_V C hP hS hl.1 0 5 (Nat.lt_of_lt_of_le (by decide) hn) rfl (by decide) rfl [.int (-1000001)] (kX5_finding l g n v 0 (by decide) (-1000001) rfl) gX5_ahead_X5_finding rfl hdX5_finding rfl ⟨rfl, rfl⟩ ⟨Nat.le_of_ble_eq_true rfl, Nat.le_of_ble_eq_true rfl⟩ rfl [] rfl (Nat.le_of_ble_eq_true rfl) dX5_ahead_51 ⟨Nat.zero_le _, Nat.zero_le _⟩) (fun H locs hP hS => ?_)
          have e54_30 : (fnC v 0).1 54 = v.1 54 := (upw_ne _ _ (by decide))
          exact t_P C rfl hP hS (ps_fd (f := fun u => aheadM u (nI jx) y z) hR (sam_rfl v) (by decide) (by simp only [aheadM, nM_of e54_30 hM, e54_30, cif_neg b_1, if_pos c_15, cif_pos kb_22, cif_neg b_25, tn_nI (show jx < 2 ^ 31 by omega)]) rfl) (rsc_trans (rsc_rfl v) (rsc_w _ _ (by decide))) dX5_ahead_54
      · skip
        refine lv_if_eq (tgt := 48) C.1.1 C.1.2.1 dX5_ahead_30 (by decide) (fun _ => ?_) (fun c_31 => absurd c_31 (by decide))
        refine lv_aload_n C.1.1 C.1.2.1 dX5_ahead_48 rfl (lv_at hl 1 rfl) ?_
        refine lv_ldc (v := (-1000001)) C.1.1 C.1.2.1 C.1.2.2.2.1 (C.1.2.2.2.2 _ (List.mem_of_getElem? (i := 2) rfl)) dX5_ahead_49 ?_
        refine a_F hS (run_V C hP hS hl.1 0 5 (Nat.lt_of_lt_of_le (by decide) hn) rfl (by decide) rfl [.int (-1000001)] (kX5_finding l g n v 0 (by decide) (-1000001) rfl) gX5_ahead_X5_finding rfl hdX5_finding rfl ⟨rfl, rfl⟩ ⟨Nat.le_of_ble_eq_true rfl, Nat.le_of_ble_eq_true rfl⟩ rfl [] rfl (Nat.le_of_ble_eq_true rfl) dX5_ahead_51 ⟨Nat.zero_le _, Nat.zero_le _⟩) (fun H locs hP hS => ?_)
        have e54_32 : (fnC v 0).1 54 = v.1 54 := (upw_ne _ _ (by decide))
        exact t_P C rfl hP hS (ps_fd (f := fun u => aheadM u x y z) hR (sam_rfl v) (by decide) (by simp only [aheadM, nM_of e54_32 hM, e54_32, cif_neg b_1, if_pos c_15, cif_neg b_22]) rfl) (rsc_trans (rsc_rfl v) (rsc_w _ _ (by decide))) dX5_ahead_54

