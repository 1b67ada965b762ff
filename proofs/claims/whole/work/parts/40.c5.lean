abbrev rmX5_hasReached : Room := { frames := 1, cells := 0, slots := 0, locals := 21 }
set_option maxHeartbeats 4000000 in
set_option maxRecDepth 100000 in
theorem kX5_hasReached (l : Launch) (g : GG) (n : Nat) (v : SV) (k : Nat) (hk : k < 64) (hk0 : kd k = 0) (x y : Int32) : Met l yX5_hasReached wsX5_hasReached rmX5_hasReached (PW g n v [.ref (gA g k), .int x, .int y]) (QB g n (hrP (v.1 k) x y) v) 0 0 (wA g n) := by
  refine Met.begin RX5 rfl (by decide) rfl (Nat.le_of_ble_eq_true rfl) ?_
  intro p e s m args below meth c ls ha C hP hS hl
  have hn : 64 ≤ n := C.2.1.1.2.1
  have hi0 : ∀ w ∈ u_ws RX0 TX0 6, w ∈ wsX5_hasReached := by decide +kernel
  have hl : lv_has ls 3 [(0, .ref (gA g k)), (1, .int x), (2, .int y)] := hl
  have hk1 : k < n := by omega
  refine lv_iload_n C.1.1 C.1.2.1 dX5_hasReached_0 rfl (lv_at hl 1 rfl) ?_
  refine lv_iconst (v := 4) C.1.1 C.1.2.1 dX5_hasReached_1 rfl ?_
  refine lv_icmp_ne (tgt := 19) C.1.1 C.1.2.1 dX5_hasReached_2 (by decide) (fun c_1 => ?_) (fun c_1 => ?_)
  · skip
    refine lv_iload_n C.1.1 C.1.2.1 dX5_hasReached_19 rfl (lv_at hl 1 rfl) ?_
    refine lv_iconst (v := 3) C.1.1 C.1.2.1 dX5_hasReached_20 rfl ?_
    refine lv_icmp_ne (tgt := 38) C.1.1 C.1.2.1 dX5_hasReached_21 (by decide) (fun c_2 => ?_) (fun c_2 => ?_)
    · skip
      refine lv_aload_n C.1.1 C.1.2.1 dX5_hasReached_38 rfl (lv_at hl 0 rfl) ?_
      refine lv_iload_n C.1.1 C.1.2.1 dX5_hasReached_39 rfl (lv_at hl 2 rfl) ?_
      refine a_B hS (run_V C hP hS hl.1 k 0 hk1 hk0 (by decide) rfl [.int y] (kX0_isFor l g n v k (by omega) hk0 y) gX5_hasReached_X0_isFor rfl hdX0_isFor rfl ⟨rfl, rfl⟩ ⟨Nat.le_of_ble_eq_true rfl, Nat.le_of_ble_eq_true rfl⟩ rfl [] rfl (Nat.le_of_ble_eq_true rfl) dX5_hasReached_40 ⟨Nat.zero_le _, Nat.zero_le _⟩) (fun b_3 H locs hP hS => ?_) (fun b_3 H locs hP hS => ?_)
      · skip
        exact t_1 C rfl hP hS (by unfold hrP; rw [if_neg c_1, if_neg c_2]; exact b_3) rfl dX5_hasReached_43
      · skip
        exact t_0 C rfl hP hS (by unfold hrP; rw [if_neg c_1, if_neg c_2]; exact b_3) rfl dX5_hasReached_43
    · skip
      refine lv_aload_n C.1.1 C.1.2.1 dX5_hasReached_24 rfl (lv_at hl 0 rfl) ?_
      refine r_get C hP k 0 hk1 hk0 (by decide) rfl hi0 3 (by decide) (List.mem_of_getElem? (i := 2) rfl) rfl (val := .int (v.1 k 3)) rfl dX5_hasReached_25 ?_
      refine lv_iload_n C.1.1 C.1.2.1 dX5_hasReached_28 rfl (lv_at hl 2 rfl) ?_
      refine lv_icmp_gt (tgt := 36) C.1.1 C.1.2.1 dX5_hasReached_29 (by decide) (fun c_4 => ?_) (fun c_4 => ?_)
      · skip
        refine lv_iconst (v := 0) C.1.1 C.1.2.1 dX5_hasReached_36 rfl ?_
        exact t_0 C rfl hP hS (by unfold hrP; rw [if_neg c_1, if_pos c_2]; exact fa_lt_nle c_4) rfl dX5_hasReached_37
      · skip
        refine lv_iconst (v := 1) C.1.1 C.1.2.1 dX5_hasReached_32 rfl ?_
        refine lv_goto (tgt := 37) C.1.1 C.1.2.1 dX5_hasReached_33 (by decide) ?_
        exact t_1 C rfl hP hS (by unfold hrP; rw [if_neg c_1, if_pos c_2]; exact fa_nlt c_4) rfl dX5_hasReached_37
  · skip
    refine lv_aload_n C.1.1 C.1.2.1 dX5_hasReached_5 rfl (lv_at hl 0 rfl) ?_
    refine r_get C hP k 0 hk1 hk0 (by decide) rfl hi0 4 (by decide) (List.mem_of_getElem? (i := 1) rfl) rfl (val := .int (v.1 k 4)) rfl dX5_hasReached_6 ?_
    refine lv_iload_n C.1.1 C.1.2.1 dX5_hasReached_9 rfl (lv_at hl 2 rfl) ?_
    refine lv_icmp_lt (tgt := 17) C.1.1 C.1.2.1 dX5_hasReached_10 (by decide) (fun c_5 => ?_) (fun c_5 => ?_)
    · skip
      refine lv_iconst (v := 0) C.1.1 C.1.2.1 dX5_hasReached_17 rfl ?_
      exact t_0 C rfl hP hS (by unfold hrP; rw [if_pos c_1]; exact fa_lt_nle c_5) rfl dX5_hasReached_18
    · skip
      refine lv_iconst (v := 1) C.1.1 C.1.2.1 dX5_hasReached_13 rfl ?_
      refine lv_goto (tgt := 18) C.1.1 C.1.2.1 dX5_hasReached_14 (by decide) ?_
      exact t_1 C rfl hP hS (by unfold hrP; rw [if_pos c_1]; exact fa_nlt c_5) rfl dX5_hasReached_18

abbrev rmX5_daysUntil : Room := { frames := 6, cells := 0, slots := 0, locals := 133 }
set_option maxHeartbeats 4000000 in
set_option maxRecDepth 100000 in
theorem kX5_daysUntil (l : Launch) (g : GG) (n : Nat) (v : SV) (r : Nat) (x y : Int32) (N : Nat) (hR : Rl v N) (hr : r < N) : Met l yX5_daysUntil wsX5_daysUntil rmX5_daysUntil (PW g n v [.ref (gA g 0), .int (nI r), .int x, .int y]) (QI g n (fun q u => Ps q (foundM u (fun t => hrP (rowM (daysM (v.1 54) t) r) x y)) ∧ u.1 54 = v.1 54 ∧ rsc v u)) 0 0 (wA g n) := by
  refine Met.begin RX5 rfl (by decide) rfl (Nat.le_of_ble_eq_true rfl) ?_
  intro p e s m args below meth c ls ha C hP hS hl
  have hn : 64 ≤ n := C.2.1.1.2.1
  have hi0 : ∀ w ∈ u_ws RX0 TX0 6, w ∈ wsX5_daysUntil := by decide +kernel
  have hi2 : ∀ w ∈ u_ws RX2 TX2 11, w ∈ wsX5_daysUntil := by decide +kernel
  have hi5 : ∀ w ∈ u_ws RX5 TX5 8, w ∈ wsX5_daysUntil := by decide +kernel
  have hl : lv_has ls 5 [(0, .ref (gA g 0)), (1, .int (nI r)), (2, .int x), (3, .int y)] := hl
  have hC := hR.1.1
  have hA := hR.1.2
  have h8 := hC.1
  have hD : okC (v.1 54) N := okC_agr (agr_symm hA) hC
  have hM := okC_M hD
  refine lv_aload_n C.1.1 C.1.2.1 dX5_daysUntil_0 rfl (lv_at hl 0 rfl) ?_
  refine r_get C hP 0 5 (Nat.lt_of_lt_of_le (by decide) hn) rfl (by decide) rfl hi5 1 (by decide) (List.mem_of_getElem? (i := 1) rfl) rfl (val := .ref (gA g 14)) rfl dX5_daysUntil_1 ?_
  refine lv_aload_n C.1.1 C.1.2.1 dX5_daysUntil_4 rfl (lv_at hl 0 rfl) ?_
  refine r_get C hP 0 5 (Nat.lt_of_lt_of_le (by decide) hn) rfl (by decide) rfl hi5 0 (by decide) (List.mem_of_getElem? (i := 2) rfl) rfl (val := .ref (gA g 1)) rfl dX5_daysUntil_5 ?_
  refine a_G hS (run_V C hP hS hl.1 14 2 (Nat.lt_of_lt_of_le (by decide) hn) rfl (by decide) rfl [.ref (gA g 1)] (kX2_become l g n v v 14 (stR v 14) 1 N (Or.inr (Or.inl rfl)) (Or.inl rfl) (by decide) (st_self _ 14).symm (by rw [scr_1 (sam_rfl v).1]; exact hC)) gX5_daysUntil_X2_become rfl hdX2_become rfl ⟨rfl, rfl⟩ ⟨Nat.le_of_ble_eq_true rfl, Nat.le_of_ble_eq_true rfl⟩ rfl [] rfl (Nat.le_of_ble_eq_true rfl) dX5_daysUntil_8 ⟨Nat.zero_le _, Nat.zero_le _⟩) (fun H locs hP hS => ?_)
  obtain ⟨X_0, hX_0⟩ : ∃ zz, zz = becM (stR v 14) (stR v 1) N := ⟨_, rfl⟩
  rw [← hX_0] at hP
  have aX_0 : agr N (stR v 1) X_0 := by rw [hX_0, scr_1 (sam_rfl v).1]; exact bec_agr _ _ _
  have cX_0 : okC X_0 N := okC_agr aX_0 hC
  refine lv_iconst (v := 0) C.1.1 C.1.2.1 dX5_daysUntil_11 rfl ?_
  refine lv_istore (lv' := [(4, .int 0), (0, .ref (gA g 0)), (1, .int (nI r)), (2, .int x), (3, .int y)]) C.1.1 C.1.2.1 dX5_daysUntil_12 hl (by decide) rfl (fun ls hl => ?_)
  have lp_14 : ∀ (k_14 i : Nat), i ≤ 201 → 201 + 1 ≤ i + k_14 → ∀ (H : Heap) (locs : List Loc) (ls : Array Slot), (∀ t, t < i → ¬ hrP (rowM (daysM (v.1 54) t) r) x y) → va_P g.1 vwCl (wl g n (stW v 14 (daysM X_0 i))) H → va_S (wA g n) s.heap H locs → lv_has ls 5 [(0, .ref (gA g 0)), (1, .int (nI r)), (2, .int x), (3, .int y), (4, .int (nI i))] → W p l e rmX5_daysUntil s m args below meth c H locs 0 0 (MQ below (QI g n (fun q u => Ps q (foundM u (fun t => hrP (rowM (daysM (v.1 54) t) r) x y)) ∧ u.1 54 = v.1 54 ∧ rsc v u)) args s 0 0 (wA g n)) (F0 m 14 ls []) := by
    clear hP hS hl
    intro k_14
    induction k_14 with
    | zero => exact fun i h1 h2 => absurd h2 (by omega)
    | succ k_14 ih_14 =>
      intro i hi_14 hk_14 H locs ls hno hP hS hl
      refine lv_iload C.1.1 C.1.2.1 dX5_daysUntil_14 (lv_at hl 4 rfl) ?_
      refine lv_sipush (v := 200) C.1.1 C.1.2.1 dX5_daysUntil_16 rfl ?_
      refine lv_icmp_gt (tgt := 55) C.1.1 C.1.2.1 dX5_daysUntil_19 (by decide) (fun c_1 => ?_) (fun c_1 => ?_)
      · rw [show (200 < nI i) = (200 < i) from propext (nI_ltI (a := 200) (b := i) (by omega) (by omega))] at c_1
        refine lv_aload_n C.1.1 C.1.2.1 dX5_daysUntil_55 rfl (lv_at hl 0 rfl) ?_
        refine lv_ldc (v := (-1000004)) C.1.1 C.1.2.1 C.1.2.2.2.1 (C.1.2.2.2.2 _ (List.mem_of_getElem? (i := 4) rfl)) dX5_daysUntil_56 ?_
        refine a_F hS (run_V C hP hS hl.1 0 5 (Nat.lt_of_lt_of_le (by decide) hn) rfl (by decide) rfl [.int (-1000004)] (kX5_finding l g n (stW v 14 (daysM X_0 i)) 3 (by decide) (-1000004) rfl) gX5_daysUntil_X5_finding rfl hdX5_finding rfl ⟨rfl, rfl⟩ ⟨Nat.le_of_ble_eq_true rfl, Nat.le_of_ble_eq_true rfl⟩ rfl [] rfl (Nat.le_of_ble_eq_true rfl) dX5_daysUntil_58 ⟨Nat.zero_le _, Nat.zero_le _⟩) (fun H locs hP hS => ?_)
        exact r_iret C rfl hP hS (⟨ps_fdA (f := fun u => foundM u (fun t => hrP (rowM (daysM (v.1 54) t) r) x y)) hR (sam_trans (sam_rfl v) (sam_14 _ _)) (by decide) (foundM_no (fun t ht => hno t (by omega))) rfl, ((upw_ne _ _ (by decide)).trans (st_far (by decide))), rsc_trans (rsc_trans (rsc_rfl v) (rsc_st _ _ (by decide))) (rsc_w _ _ (by decide))⟩) dX5_daysUntil_61
      · rw [show (200 < nI i) = (200 < i) from propext (nI_ltI (a := 200) (b := i) (by omega) (by omega))] at c_1
        refine lv_aload_n C.1.1 C.1.2.1 dX5_daysUntil_22 rfl (lv_at hl 0 rfl) ?_
        refine r_get C hP 0 5 (Nat.lt_of_lt_of_le (by decide) hn) rfl (by decide) rfl hi5 1 (by decide) (List.mem_of_getElem? (i := 1) rfl) rfl (val := .ref (gA g 14)) rfl dX5_daysUntil_23 ?_
        refine r_get C hP 14 2 (Nat.lt_of_lt_of_le (by decide) hn) rfl (by decide) rfl hi2 9 (by decide) (List.mem_of_getElem? (i := 3) rfl) rfl (val := .ref (gA g 17)) rfl dX5_daysUntil_26 ?_
        refine lv_iload_n C.1.1 C.1.2.1 dX5_daysUntil_29 rfl (lv_at hl 1 rfl) ?_
        refine r_aald C hP 17 (Nat.lt_of_lt_of_le (by decide) hn) rfl r rfl (by omega) dX5_daysUntil_30 ?_
        refine lv_iload_n C.1.1 C.1.2.1 dX5_daysUntil_31 rfl (lv_at hl 2 rfl) ?_
        refine lv_iload_n C.1.1 C.1.2.1 dX5_daysUntil_32 rfl (lv_at hl 3 rfl) ?_
        refine a_B hS (run_S C hP hS hl.1 [.ref (gA g (14 + 5 + r)), .int x, .int y] (kX5_hasReached l g n (stW v 14 (daysM X_0 i)) (14 + 5 + r) (by omega) (kd_stR 14 (Or.inr (Or.inl rfl)) r (by omega)) x y) gX5_daysUntil_X5_hasReached hdX5_hasReached rfl ⟨rfl, rfl⟩ ⟨Nat.le_of_ble_eq_true rfl, Nat.le_of_ble_eq_true rfl⟩ rfl [] rfl (Nat.le_of_ble_eq_true rfl) dX5_daysUntil_33 ⟨Nat.zero_le _, Nat.zero_le _⟩) (fun b_2 H locs hP hS => ?_) (fun b_2 H locs hP hS => ?_)
        · skip
          have hp : hrP (rowM (daysM (v.1 54) i) r) x y := by rw [← hr6 (six_trans (st_six (by omega)) (agr_six (agr_days (agr_symm (agr_trans hA aX_0)) (okC_M cX_0) i) hr h8))]; exact b_2
          refine lv_if_eq (tgt := 42) C.1.1 C.1.2.1 dX5_daysUntil_36 (by decide) (fun c_3 => absurd c_3 (by decide)) (fun _ => ?_)
          refine lv_iload C.1.1 C.1.2.1 dX5_daysUntil_39 (lv_at hl 4 rfl) ?_
          exact r_iret C rfl hP hS (⟨ps_eq (u := stW v 14 (daysM X_0 i)) hR (foundM_yes hno hp (by omega)) rfl (sam_trans (sam_trans (sam_rfl v) (sam_14 _ _)) (sam_aside _)), (st_far (by decide)), rsc_trans (rsc_rfl v) (rsc_st _ _ (by decide))⟩) dX5_daysUntil_41
        · skip
          have hp : ¬ hrP (rowM (daysM (v.1 54) i) r) x y := by rw [← hr6 (six_trans (st_six (by omega)) (agr_six (agr_days (agr_symm (agr_trans hA aX_0)) (okC_M cX_0) i) hr h8))]; exact b_2
          refine lv_if_eq (tgt := 42) C.1.1 C.1.2.1 dX5_daysUntil_36 (by decide) (fun _ => ?_) (fun c_4 => absurd c_4 (by decide))
          refine lv_aload_n C.1.1 C.1.2.1 dX5_daysUntil_42 rfl (lv_at hl 0 rfl) ?_
          refine r_get C hP 0 5 (Nat.lt_of_lt_of_le (by decide) hn) rfl (by decide) rfl hi5 1 (by decide) (List.mem_of_getElem? (i := 1) rfl) rfl (val := .ref (gA g 14)) rfl dX5_daysUntil_43 ?_
          refine a_G hS (run_V C hP hS hl.1 14 2 (Nat.lt_of_lt_of_le (by decide) hn) rfl (by decide) rfl [] (kX2_passDay l g n (stW v 14 (daysM X_0 i)) v 14 (daysM X_0 i) N (Or.inr (Or.inl rfl)) rfl (okC_days cX_0 i)) gX5_daysUntil_X2_passDay rfl hdX2_passDay rfl ⟨rfl, rfl⟩ ⟨Nat.le_of_ble_eq_true rfl, Nat.le_of_ble_eq_true rfl⟩ rfl [] rfl (Nat.le_of_ble_eq_true rfl) dX5_daysUntil_46 ⟨Nat.zero_le _, Nat.zero_le _⟩) (fun H locs hP hS => ?_)
          refine lv_iinc (v := nI (i + 1)) (lv' := [(4, .int (nI (i + 1))), (0, .ref (gA g 0)), (1, .int (nI r)), (2, .int x), (3, .int y)]) C.1.1 C.1.2.1 dX5_daysUntil_49 hl (k := 4) rfl (nI_1 i) (by decide) rfl (fun ls hl => ?_)
          refine lv_goto (tgt := 14) C.1.1 C.1.2.1 dX5_daysUntil_52 (by decide) ?_
          exact ih_14 (i + 1) (by omega) (by omega) _ _ _ (fun t ht => if h9 : t < i then hno t h9 else by rw [show t = i by omega]; exact hp) hP hS (lv_sub hl [1, 2, 3, 4, 0] rfl)
  exact lp_14 (201 + 1) 0 (Nat.zero_le _) (by omega) _ _ _ (fun t ht => absurd ht (Nat.not_lt_zero t)) hP hS (lv_sub hl [1, 2, 3, 4, 0] rfl)

abbrev rmX5_stands : Room := { frames := 7, cells := 0, slots := 0, locals := 157 }
set_option maxHeartbeats 4000000 in
set_option maxRecDepth 100000 in
theorem kX5_stands (l : Launch) (g : GG) (n : Nat) (v : SV) (x y : Int32) (N : Nat) (hR : Rl v N) : Met l yX5_stands wsX5_stands rmX5_stands (PW g n v [.ref (gA g 0), .int x, .int y]) (QP g n v (fun u => standsM u x y)) 0 0 (wA g n) := by
  refine Met.begin RX5 rfl (by decide) rfl (Nat.le_of_ble_eq_true rfl) ?_
  intro p e s m args below meth c ls ha C hP hS hl
  have hn : 64 ≤ n := C.2.1.1.2.1
  have hi0 : ∀ w ∈ u_ws RX0 TX0 6, w ∈ wsX5_stands := by decide +kernel
  have hi2 : ∀ w ∈ u_ws RX2 TX2 11, w ∈ wsX5_stands := by decide +kernel
  have hi5 : ∀ w ∈ u_ws RX5 TX5 8, w ∈ wsX5_stands := by decide +kernel
  have hl : lv_has ls 3 [(0, .ref (gA g 0)), (1, .int x), (2, .int y)] := hl
  have hC := hR.1.1
  have hA := hR.1.2
  have h8 := hC.1
  have hD : okC (v.1 54) N := okC_agr (agr_symm hA) hC
  have hM := okC_M hD
  refine lv_aload_n C.1.1 C.1.2.1 dX5_stands_0 rfl (lv_at hl 0 rfl) ?_
  refine r_get C hP 0 5 (Nat.lt_of_lt_of_le (by decide) hn) rfl (by decide) rfl hi5 0 (by decide) (List.mem_of_getElem? (i := 1) rfl) rfl (val := .ref (gA g 1)) rfl dX5_stands_1 ?_
  refine lv_iload_n C.1.1 C.1.2.1 dX5_stands_4 rfl (lv_at hl 1 rfl) ?_
  refine a_B hS (run_V C hP hS hl.1 1 2 (Nat.lt_of_lt_of_le (by decide) hn) rfl (by decide) rfl [.int x] (kX2_has l g n v x v 1 (stR v 1) N (Or.inl rfl) (scr_self (sam_rfl v).1) hC) gX5_stands_X2_has rfl hdX2_has rfl ⟨rfl, rfl⟩ ⟨Nat.le_of_ble_eq_true rfl, Nat.le_of_ble_eq_true rfl⟩ rfl [] rfl (Nat.le_of_ble_eq_true rfl) dX5_stands_5 ⟨Nat.zero_le _, Nat.zero_le _⟩) (fun b_1 H locs hP hS => ?_) (fun b_1 H locs hP hS => ?_)
  · skip
    have kb_1 := b_1
    obtain ⟨jx, hjx, rfl⟩ := b_1
    refine lv_if_eq (tgt := 22) C.1.1 C.1.2.1 dX5_stands_8 (by decide) (fun c_2 => absurd c_2 (by decide)) (fun _ => ?_)
    refine lv_iload_n C.1.1 C.1.2.1 dX5_stands_11 rfl (lv_at hl 2 rfl) ?_
    refine lv_iconst (v := 0) C.1.1 C.1.2.1 dX5_stands_12 rfl ?_
    refine lv_sipush (v := 9999) C.1.1 C.1.2.1 dX5_stands_13 rfl ?_
    refine a_B hS (run_S C hP hS hl.1 [.int y, .int 0, .int 9999] (kX5_isWithin l g n v y 0 9999) gX5_stands_X5_isWithin hdX5_isWithin rfl ⟨rfl, rfl⟩ ⟨Nat.le_of_ble_eq_true rfl, Nat.le_of_ble_eq_true rfl⟩ rfl [] rfl (Nat.le_of_ble_eq_true rfl) dX5_stands_16 ⟨Nat.zero_le _, Nat.zero_le _⟩) (fun b_3 H locs hP hS => ?_) (fun b_3 H locs hP hS => ?_)
    · skip
      have b_3 := (in_iffC 10000 (by decide) (by decide)).mp b_3
      have kb_3 := b_3
      obtain ⟨jy, hjy, rfl⟩ := b_3
      refine lv_if_ne (tgt := 29) C.1.1 C.1.2.1 dX5_stands_19 (by decide) (fun _ => ?_) (fun c_4 => absurd c_4 (by decide))
      refine lv_aload_n C.1.1 C.1.2.1 dX5_stands_29 rfl (lv_at hl 0 rfl) ?_
      refine lv_iload_n C.1.1 C.1.2.1 dX5_stands_30 rfl (lv_at hl 1 rfl) ?_
      refine lv_iconst (v := 4) C.1.1 C.1.2.1 dX5_stands_31 rfl ?_
      refine lv_iload_n C.1.1 C.1.2.1 dX5_stands_32 rfl (lv_at hl 2 rfl) ?_
      refine a_I hS (run_V C hP hS hl.1 0 5 (Nat.lt_of_lt_of_le (by decide) hn) rfl (by decide) rfl [.int (nI jx), .int 4, .int (nI jy)] (kX5_daysUntil l g n v jx 4 (nI jy) N hR hjx) gX5_stands_X5_daysUntil rfl hdX5_daysUntil rfl ⟨rfl, rfl⟩ ⟨Nat.le_of_ble_eq_true rfl, Nat.le_of_ble_eq_true rfl⟩ rfl [] rfl (Nat.le_of_ble_eq_true rfl) dX5_stands_33 ⟨Nat.zero_le _, Nat.zero_le _⟩) (fun r_1 u_1 H locs hq hP hS => ?_)
      obtain ⟨hq1, hq2, hq3⟩ := hq
      exact t_P C rfl hP hS (by have e9 : standsM u_1 (nI jx) (nI jy) = foundM u_1 (fun t => hrP (rowM (daysM (v.1 54) t) jx) 4 (nI jy)) := (by simp only [standsM, nM_of hq2 hM, cif_pos kb_1, cif_pos kb_3, tn_nI (show jx < 2 ^ 31 by omega), tn_nI (show jy < 2 ^ 31 by omega), firstM]; rw [hq2, stands_eq hD hjx]); show Ps r_1 (standsM u_1 (nI jx) (nI jy)); rw [e9]; exact hq1) hq3 dX5_stands_36
    · skip
      have b_3 := fun h => b_3 ((in_iffC 10000 (by decide) (by decide)).mpr h)
      refine lv_if_ne (tgt := 29) C.1.1 C.1.2.1 dX5_stands_19 (by decide) (fun c_5 => absurd c_5 (by decide)) (fun _ => ?_)
      refine lv_aload_n C.1.1 C.1.2.1 dX5_stands_22 rfl (lv_at hl 0 rfl) ?_
      refine lv_ldc (v := (-1000001)) C.1.1 C.1.2.1 C.1.2.2.2.1 (C.1.2.2.2.2 _ (List.mem_of_getElem? (i := 2) rfl)) dX5_stands_23 ?_
      refine a_F hS (run_V C hP hS hl.1 0 5 (Nat.lt_of_lt_of_le (by decide) hn) rfl (by decide) rfl [.int (-1000001)] (kX5_finding l g n v 0 (by decide) (-1000001) rfl) gX5_stands_X5_finding rfl hdX5_finding rfl ⟨rfl, rfl⟩ ⟨Nat.le_of_ble_eq_true rfl, Nat.le_of_ble_eq_true rfl⟩ rfl [] rfl (Nat.le_of_ble_eq_true rfl) dX5_stands_25 ⟨Nat.zero_le _, Nat.zero_le _⟩) (fun H locs hP hS => ?_)
      have e54_6 : (fnC v 0).1 54 = v.1 54 := (upw_ne _ _ (by decide))
      exact t_P C rfl hP hS (ps_fd (f := fun u => standsM u (nI jx) y) hR (sam_rfl v) (by decide) (by simp only [standsM, nM_of e54_6 hM, e54_6, cif_pos kb_1, cif_neg b_3, tn_nI (show jx < 2 ^ 31 by omega)]) rfl) (rsc_trans (rsc_rfl v) (rsc_w _ _ (by decide))) dX5_stands_28
  · skip
    refine lv_if_eq (tgt := 22) C.1.1 C.1.2.1 dX5_stands_8 (by decide) (fun _ => ?_) (fun c_7 => absurd c_7 (by decide))
    refine lv_aload_n C.1.1 C.1.2.1 dX5_stands_22 rfl (lv_at hl 0 rfl) ?_
    refine lv_ldc (v := (-1000001)) C.1.1 C.1.2.1 C.1.2.2.2.1 (C.1.2.2.2.2 _ (List.mem_of_getElem? (i := 2) rfl)) dX5_stands_23 ?_
    refine a_F hS (run_V C hP hS hl.1 0 5 (Nat.lt_of_lt_of_le (by decide) hn) rfl (by decide) rfl [.int (-1000001)] (kX5_finding l g n v 0 (by decide) (-1000001) rfl) gX5_stands_X5_finding rfl hdX5_finding rfl ⟨rfl, rfl⟩ ⟨Nat.le_of_ble_eq_true rfl, Nat.le_of_ble_eq_true rfl⟩ rfl [] rfl (Nat.le_of_ble_eq_true rfl) dX5_stands_25 ⟨Nat.zero_le _, Nat.zero_le _⟩) (fun H locs hP hS => ?_)
    have e54_8 : (fnC v 0).1 54 = v.1 54 := (upw_ne _ _ (by decide))
    exact t_P C rfl hP hS (ps_fd (f := fun u => standsM u x y) hR (sam_rfl v) (by decide) (by simp only [standsM, nM_of e54_8 hM, e54_8, cif_neg b_1]) rfl) (rsc_trans (rsc_rfl v) (rsc_w _ _ (by decide))) dX5_stands_28

abbrev rmX5_despair : Room := { frames := 7, cells := 0, slots := 0, locals := 157 }
set_option maxHeartbeats 4000000 in
set_option maxRecDepth 100000 in
theorem kX5_despair (l : Launch) (g : GG) (n : Nat) (v : SV) (x y : Int32) (N : Nat) (hR : Rl v N) : Met l yX5_despair wsX5_despair rmX5_despair (PW g n v [.ref (gA g 0), .int x, .int y]) (QP g n v (fun u => despairM u x y)) 0 0 (wA g n) := by
  refine Met.begin RX5 rfl (by decide) rfl (Nat.le_of_ble_eq_true rfl) ?_
  intro p e s m args below meth c ls ha C hP hS hl
  have hn : 64 ≤ n := C.2.1.1.2.1
  have hi0 : ∀ w ∈ u_ws RX0 TX0 6, w ∈ wsX5_despair := by decide +kernel
  have hi2 : ∀ w ∈ u_ws RX2 TX2 11, w ∈ wsX5_despair := by decide +kernel
  have hi5 : ∀ w ∈ u_ws RX5 TX5 8, w ∈ wsX5_despair := by decide +kernel
  have hl : lv_has ls 3 [(0, .ref (gA g 0)), (1, .int x), (2, .int y)] := hl
  have hC := hR.1.1
  have hA := hR.1.2
  have h8 := hC.1
  have hD : okC (v.1 54) N := okC_agr (agr_symm hA) hC
  have hM := okC_M hD
  refine lv_aload_n C.1.1 C.1.2.1 dX5_despair_0 rfl (lv_at hl 0 rfl) ?_
  refine r_get C hP 0 5 (Nat.lt_of_lt_of_le (by decide) hn) rfl (by decide) rfl hi5 0 (by decide) (List.mem_of_getElem? (i := 1) rfl) rfl (val := .ref (gA g 1)) rfl dX5_despair_1 ?_
  refine lv_iload_n C.1.1 C.1.2.1 dX5_despair_4 rfl (lv_at hl 1 rfl) ?_
  refine a_B hS (run_V C hP hS hl.1 1 2 (Nat.lt_of_lt_of_le (by decide) hn) rfl (by decide) rfl [.int x] (kX2_has l g n v x v 1 (stR v 1) N (Or.inl rfl) (scr_self (sam_rfl v).1) hC) gX5_despair_X2_has rfl hdX2_has rfl ⟨rfl, rfl⟩ ⟨Nat.le_of_ble_eq_true rfl, Nat.le_of_ble_eq_true rfl⟩ rfl [] rfl (Nat.le_of_ble_eq_true rfl) dX5_despair_5 ⟨Nat.zero_le _, Nat.zero_le _⟩) (fun b_1 H locs hP hS => ?_) (fun b_1 H locs hP hS => ?_)
  · skip
    have kb_1 := b_1
    obtain ⟨jx, hjx, rfl⟩ := b_1
    refine lv_if_eq (tgt := 21) C.1.1 C.1.2.1 dX5_despair_8 (by decide) (fun c_2 => absurd c_2 (by decide)) (fun _ => ?_)
    refine lv_iload_n C.1.1 C.1.2.1 dX5_despair_11 rfl (lv_at hl 2 rfl) ?_
    refine lv_iconst (v := 0) C.1.1 C.1.2.1 dX5_despair_12 rfl ?_
    refine lv_bipush (v := 99) C.1.1 C.1.2.1 dX5_despair_13 rfl ?_
    refine a_B hS (run_S C hP hS hl.1 [.int y, .int 0, .int 99] (kX5_isWithin l g n v y 0 99) gX5_despair_X5_isWithin hdX5_isWithin rfl ⟨rfl, rfl⟩ ⟨Nat.le_of_ble_eq_true rfl, Nat.le_of_ble_eq_true rfl⟩ rfl [] rfl (Nat.le_of_ble_eq_true rfl) dX5_despair_15 ⟨Nat.zero_le _, Nat.zero_le _⟩) (fun b_3 H locs hP hS => ?_) (fun b_3 H locs hP hS => ?_)
    · skip
      have b_3 := (in_iffC 100 (by decide) (by decide)).mp b_3
      have kb_3 := b_3
      obtain ⟨jy, hjy, rfl⟩ := b_3
      refine lv_if_ne (tgt := 28) C.1.1 C.1.2.1 dX5_despair_18 (by decide) (fun _ => ?_) (fun c_4 => absurd c_4 (by decide))
      refine lv_aload_n C.1.1 C.1.2.1 dX5_despair_28 rfl (lv_at hl 0 rfl) ?_
      refine lv_iload_n C.1.1 C.1.2.1 dX5_despair_29 rfl (lv_at hl 1 rfl) ?_
      refine lv_iconst (v := 3) C.1.1 C.1.2.1 dX5_despair_30 rfl ?_
      refine lv_iload_n C.1.1 C.1.2.1 dX5_despair_31 rfl (lv_at hl 2 rfl) ?_
      refine a_I hS (run_V C hP hS hl.1 0 5 (Nat.lt_of_lt_of_le (by decide) hn) rfl (by decide) rfl [.int (nI jx), .int 3, .int (nI jy)] (kX5_daysUntil l g n v jx 3 (nI jy) N hR hjx) gX5_despair_X5_daysUntil rfl hdX5_daysUntil rfl ⟨rfl, rfl⟩ ⟨Nat.le_of_ble_eq_true rfl, Nat.le_of_ble_eq_true rfl⟩ rfl [] rfl (Nat.le_of_ble_eq_true rfl) dX5_despair_32 ⟨Nat.zero_le _, Nat.zero_le _⟩) (fun r_1 u_1 H locs hq hP hS => ?_)
      obtain ⟨hq1, hq2, hq3⟩ := hq
      exact t_P C rfl hP hS (by have e9 : despairM u_1 (nI jx) (nI jy) = foundM u_1 (fun t => hrP (rowM (daysM (v.1 54) t) jx) 3 (nI jy)) := (by simp only [despairM, nM_of hq2 hM, cif_pos kb_1, cif_pos kb_3, tn_nI (show jx < 2 ^ 31 by omega), tn_nI (show jy < 2 ^ 31 by omega), firstM]; rw [hq2, despair_eq hD hjx]); show Ps r_1 (despairM u_1 (nI jx) (nI jy)); rw [e9]; exact hq1) hq3 dX5_despair_35
    · skip
      have b_3 := fun h => b_3 ((in_iffC 100 (by decide) (by decide)).mpr h)
      refine lv_if_ne (tgt := 28) C.1.1 C.1.2.1 dX5_despair_18 (by decide) (fun c_5 => absurd c_5 (by decide)) (fun _ => ?_)
      refine lv_aload_n C.1.1 C.1.2.1 dX5_despair_21 rfl (lv_at hl 0 rfl) ?_
      refine lv_ldc (v := (-1000001)) C.1.1 C.1.2.1 C.1.2.2.2.1 (C.1.2.2.2.2 _ (List.mem_of_getElem? (i := 2) rfl)) dX5_despair_22 ?_
      refine a_F hS (run_V C hP hS hl.1 0 5 (Nat.lt_of_lt_of_le (by decide) hn) rfl (by decide) rfl [.int (-1000001)] (kX5_finding l g n v 0 (by decide) (-1000001) rfl) gX5_despair_X5_finding rfl hdX5_finding rfl ⟨rfl, rfl⟩ ⟨Nat.le_of_ble_eq_true rfl, Nat.le_of_ble_eq_true rfl⟩ rfl [] rfl (Nat.le_of_ble_eq_true rfl) dX5_despair_24 ⟨Nat.zero_le _, Nat.zero_le _⟩) (fun H locs hP hS => ?_)
      have e54_6 : (fnC v 0).1 54 = v.1 54 := (upw_ne _ _ (by decide))
      exact t_P C rfl hP hS (ps_fd (f := fun u => despairM u (nI jx) y) hR (sam_rfl v) (by decide) (by simp only [despairM, nM_of e54_6 hM, e54_6, cif_pos kb_1, cif_neg b_3, tn_nI (show jx < 2 ^ 31 by omega)]) rfl) (rsc_trans (rsc_rfl v) (rsc_w _ _ (by decide))) dX5_despair_27
  · skip
    refine lv_if_eq (tgt := 21) C.1.1 C.1.2.1 dX5_despair_8 (by decide) (fun _ => ?_) (fun c_7 => absurd c_7 (by decide))
    refine lv_aload_n C.1.1 C.1.2.1 dX5_despair_21 rfl (lv_at hl 0 rfl) ?_
    refine lv_ldc (v := (-1000001)) C.1.1 C.1.2.1 C.1.2.2.2.1 (C.1.2.2.2.2 _ (List.mem_of_getElem? (i := 2) rfl)) dX5_despair_22 ?_
    refine a_F hS (run_V C hP hS hl.1 0 5 (Nat.lt_of_lt_of_le (by decide) hn) rfl (by decide) rfl [.int (-1000001)] (kX5_finding l g n v 0 (by decide) (-1000001) rfl) gX5_despair_X5_finding rfl hdX5_finding rfl ⟨rfl, rfl⟩ ⟨Nat.le_of_ble_eq_true rfl, Nat.le_of_ble_eq_true rfl⟩ rfl [] rfl (Nat.le_of_ble_eq_true rfl) dX5_despair_24 ⟨Nat.zero_le _, Nat.zero_le _⟩) (fun H locs hP hS => ?_)
    have e54_8 : (fnC v 0).1 54 = v.1 54 := (upw_ne _ _ (by decide))
    exact t_P C rfl hP hS (ps_fd (f := fun u => despairM u x y) hR (sam_rfl v) (by decide) (by simp only [despairM, nM_of e54_8 hM, e54_8, cif_neg b_1]) rfl) (rsc_trans (rsc_rfl v) (rsc_w _ _ (by decide))) dX5_despair_27

abbrev rmX5_wants : Room := { frames := 7, cells := 0, slots := 0, locals := 157 }
set_option maxHeartbeats 4000000 in
set_option maxRecDepth 100000 in
theorem kX5_wants (l : Launch) (g : GG) (n : Nat) (v : SV) (x y : Int32) (N : Nat) (hR : Rl v N) : Met l yX5_wants wsX5_wants rmX5_wants (PW g n v [.ref (gA g 0), .int x, .int y]) (QP g n v (fun u => wantsM u x y)) 0 0 (wA g n) := by
  refine Met.begin RX5 rfl (by decide) rfl (Nat.le_of_ble_eq_true rfl) ?_
  intro p e s m args below meth c ls ha C hP hS hl
  have hn : 64 ≤ n := C.2.1.1.2.1
  have hi0 : ∀ w ∈ u_ws RX0 TX0 6, w ∈ wsX5_wants := by decide +kernel
  have hi2 : ∀ w ∈ u_ws RX2 TX2 11, w ∈ wsX5_wants := by decide +kernel
  have hi5 : ∀ w ∈ u_ws RX5 TX5 8, w ∈ wsX5_wants := by decide +kernel
  have hl : lv_has ls 3 [(0, .ref (gA g 0)), (1, .int x), (2, .int y)] := hl
  have hC := hR.1.1
  have hA := hR.1.2
  have h8 := hC.1
  have hD : okC (v.1 54) N := okC_agr (agr_symm hA) hC
  have hM := okC_M hD
  refine lv_aload_n C.1.1 C.1.2.1 dX5_wants_0 rfl (lv_at hl 0 rfl) ?_
  refine r_get C hP 0 5 (Nat.lt_of_lt_of_le (by decide) hn) rfl (by decide) rfl hi5 0 (by decide) (List.mem_of_getElem? (i := 1) rfl) rfl (val := .ref (gA g 1)) rfl dX5_wants_1 ?_
  refine lv_iload_n C.1.1 C.1.2.1 dX5_wants_4 rfl (lv_at hl 1 rfl) ?_
  refine a_B hS (run_V C hP hS hl.1 1 2 (Nat.lt_of_lt_of_le (by decide) hn) rfl (by decide) rfl [.int x] (kX2_has l g n v x v 1 (stR v 1) N (Or.inl rfl) (scr_self (sam_rfl v).1) hC) gX5_wants_X2_has rfl hdX2_has rfl ⟨rfl, rfl⟩ ⟨Nat.le_of_ble_eq_true rfl, Nat.le_of_ble_eq_true rfl⟩ rfl [] rfl (Nat.le_of_ble_eq_true rfl) dX5_wants_5 ⟨Nat.zero_le _, Nat.zero_le _⟩) (fun b_1 H locs hP hS => ?_) (fun b_1 H locs hP hS => ?_)
  · skip
    have kb_1 := b_1
    obtain ⟨jx, hjx, rfl⟩ := b_1
    refine lv_if_eq (tgt := 18) C.1.1 C.1.2.1 dX5_wants_8 (by decide) (fun c_2 => absurd c_2 (by decide)) (fun _ => ?_)
    refine lv_iload_n C.1.1 C.1.2.1 dX5_wants_11 rfl (lv_at hl 2 rfl) ?_
    refine a_B hS (run_S C hP hS hl.1 [.int y] (kX5_isGood l g n v y) gX5_wants_X5_isGood hdX5_isGood rfl ⟨rfl, rfl⟩ ⟨Nat.le_of_ble_eq_true rfl, Nat.le_of_ble_eq_true rfl⟩ rfl [] rfl (Nat.le_of_ble_eq_true rfl) dX5_wants_12 ⟨Nat.zero_le _, Nat.zero_le _⟩) (fun b_3 H locs hP hS => ?_) (fun b_3 H locs hP hS => ?_)
    · skip
      have kb_3 := b_3
      obtain ⟨jy, hjy, rfl⟩ := b_3
      refine lv_if_ne (tgt := 25) C.1.1 C.1.2.1 dX5_wants_15 (by decide) (fun _ => ?_) (fun c_4 => absurd c_4 (by decide))
      refine lv_aload_n C.1.1 C.1.2.1 dX5_wants_25 rfl (lv_at hl 0 rfl) ?_
      refine lv_iload_n C.1.1 C.1.2.1 dX5_wants_26 rfl (lv_at hl 1 rfl) ?_
      refine lv_iconst (v := 2) C.1.1 C.1.2.1 dX5_wants_27 rfl ?_
      refine lv_iload_n C.1.1 C.1.2.1 dX5_wants_28 rfl (lv_at hl 2 rfl) ?_
      refine a_I hS (run_V C hP hS hl.1 0 5 (Nat.lt_of_lt_of_le (by decide) hn) rfl (by decide) rfl [.int (nI jx), .int 2, .int (nI jy)] (kX5_daysUntil l g n v jx 2 (nI jy) N hR hjx) gX5_wants_X5_daysUntil rfl hdX5_daysUntil rfl ⟨rfl, rfl⟩ ⟨Nat.le_of_ble_eq_true rfl, Nat.le_of_ble_eq_true rfl⟩ rfl [] rfl (Nat.le_of_ble_eq_true rfl) dX5_wants_29 ⟨Nat.zero_le _, Nat.zero_le _⟩) (fun r_1 u_1 H locs hq hP hS => ?_)
      obtain ⟨hq1, hq2, hq3⟩ := hq
      exact t_P C rfl hP hS (by have e9 : wantsM u_1 (nI jx) (nI jy) = foundM u_1 (fun t => hrP (rowM (daysM (v.1 54) t) jx) 2 (nI jy)) := (by simp only [wantsM, nM_of hq2 hM, cif_pos kb_1, cif_pos kb_3, tn_nI (show jx < 2 ^ 31 by omega), tn_nI (show jy < 2 ^ 31 by omega), firstM]; rw [hq2, wants_eq]); show Ps r_1 (wantsM u_1 (nI jx) (nI jy)); rw [e9]; exact hq1) hq3 dX5_wants_32
    · skip
      refine lv_if_ne (tgt := 25) C.1.1 C.1.2.1 dX5_wants_15 (by decide) (fun c_5 => absurd c_5 (by decide)) (fun _ => ?_)
      refine lv_aload_n C.1.1 C.1.2.1 dX5_wants_18 rfl (lv_at hl 0 rfl) ?_
      refine lv_ldc (v := (-1000001)) C.1.1 C.1.2.1 C.1.2.2.2.1 (C.1.2.2.2.2 _ (List.mem_of_getElem? (i := 2) rfl)) dX5_wants_19 ?_
      refine a_F hS (run_V C hP hS hl.1 0 5 (Nat.lt_of_lt_of_le (by decide) hn) rfl (by decide) rfl [.int (-1000001)] (kX5_finding l g n v 0 (by decide) (-1000001) rfl) gX5_wants_X5_finding rfl hdX5_finding rfl ⟨rfl, rfl⟩ ⟨Nat.le_of_ble_eq_true rfl, Nat.le_of_ble_eq_true rfl⟩ rfl [] rfl (Nat.le_of_ble_eq_true rfl) dX5_wants_21 ⟨Nat.zero_le _, Nat.zero_le _⟩) (fun H locs hP hS => ?_)
      have e54_6 : (fnC v 0).1 54 = v.1 54 := (upw_ne _ _ (by decide))
      exact t_P C rfl hP hS (ps_fd (f := fun u => wantsM u (nI jx) y) hR (sam_rfl v) (by decide) (by simp only [wantsM, nM_of e54_6 hM, e54_6, cif_pos kb_1, cif_neg b_3, tn_nI (show jx < 2 ^ 31 by omega)]) rfl) (rsc_trans (rsc_rfl v) (rsc_w _ _ (by decide))) dX5_wants_24
  · skip
    refine lv_if_eq (tgt := 18) C.1.1 C.1.2.1 dX5_wants_8 (by decide) (fun _ => ?_) (fun c_7 => absurd c_7 (by decide))
    refine lv_aload_n C.1.1 C.1.2.1 dX5_wants_18 rfl (lv_at hl 0 rfl) ?_
    refine lv_ldc (v := (-1000001)) C.1.1 C.1.2.1 C.1.2.2.2.1 (C.1.2.2.2.2 _ (List.mem_of_getElem? (i := 2) rfl)) dX5_wants_19 ?_
    refine a_F hS (run_V C hP hS hl.1 0 5 (Nat.lt_of_lt_of_le (by decide) hn) rfl (by decide) rfl [.int (-1000001)] (kX5_finding l g n v 0 (by decide) (-1000001) rfl) gX5_wants_X5_finding rfl hdX5_finding rfl ⟨rfl, rfl⟩ ⟨Nat.le_of_ble_eq_true rfl, Nat.le_of_ble_eq_true rfl⟩ rfl [] rfl (Nat.le_of_ble_eq_true rfl) dX5_wants_21 ⟨Nat.zero_le _, Nat.zero_le _⟩) (fun H locs hP hS => ?_)
    have e54_8 : (fnC v 0).1 54 = v.1 54 := (upw_ne _ _ (by decide))
    exact t_P C rfl hP hS (ps_fd (f := fun u => wantsM u x y) hR (sam_rfl v) (by decide) (by simp only [wantsM, nM_of e54_8 hM, e54_8, cif_neg b_1]) rfl) (rsc_trans (rsc_rfl v) (rsc_w _ _ (by decide))) dX5_wants_24

abbrev rmX5_firstGreatestOutcome : Room := { frames := 0, cells := 0, slots := 0, locals := 0 }
set_option maxHeartbeats 4000000 in
set_option maxRecDepth 100000 in
theorem kX5_firstGreatestOutcome (l : Launch) (g : GG) (n : Nat) (v : SV) (q : Nat) (hq1 : 1 ≤ q) (hq : q ≤ 16) : Met l yX5_firstGreatestOutcome wsX5_firstGreatestOutcome rmX5_firstGreatestOutcome (PW g n v [.ref (gA g 0), .int (nI q)]) (QF g n (nI (bst (v.1 40) q)) v) 0 0 (wA g n) := by
  refine Met.begin RX5 rfl (by decide) rfl (Nat.le_of_ble_eq_true rfl) ?_
  intro p e s m args below meth c ls ha C hP hS hl
  have hn : 64 ≤ n := C.2.1.1.2.1
  have hi5 : ∀ w ∈ u_ws RX5 TX5 8, w ∈ wsX5_firstGreatestOutcome := by decide +kernel
  have hl : lv_has ls 4 [(0, .ref (gA g 0)), (1, .int (nI q))] := hl
  refine lv_iconst (v := 0) C.1.1 C.1.2.1 dX5_firstGreatestOutcome_0 rfl ?_
  refine lv_istore_n (lv' := [(2, .int 0), (0, .ref (gA g 0)), (1, .int (nI q))]) C.1.1 C.1.2.1 dX5_firstGreatestOutcome_1 rfl hl (by decide) rfl (fun ls hl => ?_)
  refine lv_iconst (v := 1) C.1.1 C.1.2.1 dX5_firstGreatestOutcome_2 rfl ?_
  refine lv_istore_n (lv' := [(3, .int 1), (2, .int 0), (0, .ref (gA g 0)), (1, .int (nI q))]) C.1.1 C.1.2.1 dX5_firstGreatestOutcome_3 rfl hl (by decide) rfl (fun ls hl => ?_)
  have lp_4 : ∀ (k_4 i : Nat), i ≤ q → q + 1 ≤ i + k_4 → ∀ (H : Heap) (locs : List Loc) (ls : Array Slot), (1 ≤ i) → va_P g.1 vwCl (wl g n v) H → va_S (wA g n) s.heap H locs → lv_has ls 4 [(0, .ref (gA g 0)), (1, .int (nI q)), (2, .int (nI (bst (v.1 40) i))), (3, .int (nI i))] → W p l e rmX5_firstGreatestOutcome s m args below meth c H locs 0 0 (MQ below (QF g n (nI (bst (v.1 40) q)) v) args s 0 0 (wA g n)) (F0 m 4 ls []) := by
    clear hP hS hl
    intro k_4
    induction k_4 with
    | zero => exact fun i h1 h2 => absurd h2 (by omega)
    | succ k_4 ih_4 =>
      intro i hi_4 hk_4 H locs ls h1i hP hS hl
      have hb := bst_lt (v.1 40) i h1i
      refine lv_iload_n C.1.1 C.1.2.1 dX5_firstGreatestOutcome_4 rfl (lv_at hl 3 rfl) ?_
      refine lv_iload_n C.1.1 C.1.2.1 dX5_firstGreatestOutcome_5 rfl (lv_at hl 1 rfl) ?_
      refine lv_icmp_ge (tgt := 38) C.1.1 C.1.2.1 dX5_firstGreatestOutcome_6 (by decide) (fun c_1 => ?_) (fun c_1 => ?_)
      · rw [show (nI q ≤ nI i) = (q ≤ i) from propext (nI_leI (a := q) (b := i) (by omega) (by omega))] at c_1
        have hiq : i = q := by omega
        refine lv_iload_n C.1.1 C.1.2.1 dX5_firstGreatestOutcome_38 rfl (lv_at hl 2 rfl) ?_
        exact t_F C rfl hP hS (by rw [hiq]) rfl dX5_firstGreatestOutcome_39
      · rw [show (nI q ≤ nI i) = (q ≤ i) from propext (nI_leI (a := q) (b := i) (by omega) (by omega))] at c_1
        refine lv_iload_n C.1.1 C.1.2.1 dX5_firstGreatestOutcome_9 rfl (lv_at hl 3 rfl) ?_
        refine lv_bipush (v := 16) C.1.1 C.1.2.1 dX5_firstGreatestOutcome_10 rfl ?_
        refine lv_icmp_ge (tgt := 38) C.1.1 C.1.2.1 dX5_firstGreatestOutcome_12 (by decide) (fun c_2 => ?_) (fun c_2 => ?_)
        · rw [show (16 ≤ nI i) = (16 ≤ i) from propext (nI_leI (a := 16) (b := i) (by omega) (by omega))] at c_2
          exact absurd c_2 (by omega)
        · rw [show (16 ≤ nI i) = (16 ≤ i) from propext (nI_leI (a := 16) (b := i) (by omega) (by omega))] at c_2
          refine lv_aload_n C.1.1 C.1.2.1 dX5_firstGreatestOutcome_15 rfl (lv_at hl 0 rfl) ?_
          refine r_get C hP 0 5 (Nat.lt_of_lt_of_le (by decide) hn) rfl (by decide) rfl hi5 4 (by decide) (List.mem_of_getElem? (i := 1) rfl) rfl (val := .ref (gA g 40)) rfl dX5_firstGreatestOutcome_16 ?_
          refine lv_iload_n C.1.1 C.1.2.1 dX5_firstGreatestOutcome_19 rfl (lv_at hl 3 rfl) ?_
          refine r_iald C hP 40 (Nat.lt_of_lt_of_le (by decide) hn) rfl i rfl (N := 16) rfl (by decide) (by omega) dX5_firstGreatestOutcome_20 ?_
          refine lv_aload_n C.1.1 C.1.2.1 dX5_firstGreatestOutcome_21 rfl (lv_at hl 0 rfl) ?_
          refine r_get C hP 0 5 (Nat.lt_of_lt_of_le (by decide) hn) rfl (by decide) rfl hi5 4 (by decide) (List.mem_of_getElem? (i := 1) rfl) rfl (val := .ref (gA g 40)) rfl dX5_firstGreatestOutcome_22 ?_
          refine lv_iload_n C.1.1 C.1.2.1 dX5_firstGreatestOutcome_25 rfl (lv_at hl 2 rfl) ?_
          refine r_iald C hP 40 (Nat.lt_of_lt_of_le (by decide) hn) rfl (bst (v.1 40) i) rfl (N := 16) rfl (by decide) (by omega) dX5_firstGreatestOutcome_26 ?_
          refine lv_icmp_le (tgt := 32) C.1.1 C.1.2.1 dX5_firstGreatestOutcome_27 (by decide) (fun c_3 => ?_) (fun c_3 => ?_)
          · skip
            refine lv_iinc (v := nI (i + 1)) (lv' := [(3, .int (nI (i + 1))), (0, .ref (gA g 0)), (1, .int (nI q)), (2, .int (nI (bst (v.1 40) i)))]) C.1.1 C.1.2.1 dX5_firstGreatestOutcome_32 hl (k := 3) rfl (nI_1 i) (by decide) rfl (fun ls hl => ?_)
            refine lv_goto (tgt := 4) C.1.1 C.1.2.1 dX5_firstGreatestOutcome_35 (by decide) ?_
            exact ih_4 (i + 1) (by omega) (by omega) _ _ _ (by omega) hP hS (by rw [bst_no h1i c_3]; exact lv_sub hl [1, 2, 3, 0] rfl)
          · skip
            refine lv_iload_n C.1.1 C.1.2.1 dX5_firstGreatestOutcome_30 rfl (lv_at hl 3 rfl) ?_
            refine lv_istore_n (lv' := [(2, .int (nI i)), (0, .ref (gA g 0)), (1, .int (nI q)), (3, .int (nI i))]) C.1.1 C.1.2.1 dX5_firstGreatestOutcome_31 rfl hl (by decide) rfl (fun ls hl => ?_)
            refine lv_iinc (v := nI (i + 1)) (lv' := [(3, .int (nI (i + 1))), (2, .int (nI i)), (0, .ref (gA g 0)), (1, .int (nI q))]) C.1.1 C.1.2.1 dX5_firstGreatestOutcome_32 hl (k := 3) rfl (nI_1 i) (by decide) rfl (fun ls hl => ?_)
            refine lv_goto (tgt := 4) C.1.1 C.1.2.1 dX5_firstGreatestOutcome_35 (by decide) ?_
            exact ih_4 (i + 1) (by omega) (by omega) _ _ _ (by omega) hP hS (by rw [bst_yes h1i c_3]; exact lv_sub hl [2, 3, 1, 0] rfl)
  exact lp_4 (q + 1) 1 hq1 (by omega) _ _ _ (Nat.le_refl 1) hP hS (lv_sub hl [2, 3, 1, 0] rfl)

abbrev rmX5_cryFor : Room := { frames := 7, cells := 0, slots := 0, locals := 155 }
set_option maxHeartbeats 4000000 in
set_option maxRecDepth 100000 in
theorem kX5_cryFor (l : Launch) (g : GG) (n : Nat) (v : SV) (x y : Int32) (N : Nat) (hR : Rl v N) : Met l yX5_cryFor wsX5_cryFor rmX5_cryFor (PW g n v [.ref (gA g 0), .int x, .int y]) (QP g n v (fun u => cryForM u x y)) 0 0 (wA g n) := by
  refine Met.begin RX5 rfl (by decide) rfl (Nat.le_of_ble_eq_true rfl) ?_
  intro p e s m args below meth c ls ha C hP hS hl
  have hn : 64 ≤ n := C.2.1.1.2.1
  have hi0 : ∀ w ∈ u_ws RX0 TX0 6, w ∈ wsX5_cryFor := by decide +kernel
  have hi2 : ∀ w ∈ u_ws RX2 TX2 11, w ∈ wsX5_cryFor := by decide +kernel
  have hi5 : ∀ w ∈ u_ws RX5 TX5 8, w ∈ wsX5_cryFor := by decide +kernel
  have hl : lv_has ls 4 [(0, .ref (gA g 0)), (1, .int x), (2, .int y)] := hl
  have hC := hR.1.1
  have hA := hR.1.2
  have h8 := hC.1
  have hD : okC (v.1 54) N := okC_agr (agr_symm hA) hC
  have hM := okC_M hD
  refine lv_iload_n C.1.1 C.1.2.1 dX5_cryFor_0 rfl (lv_at hl 1 rfl) ?_
  refine a_B hS (run_S C hP hS hl.1 [.int x] (kX5_isPlace l g n v x) gX5_cryFor_X5_isPlace hdX5_isPlace rfl ⟨rfl, rfl⟩ ⟨Nat.le_of_ble_eq_true rfl, Nat.le_of_ble_eq_true rfl⟩ rfl [] rfl (Nat.le_of_ble_eq_true rfl) dX5_cryFor_1 ⟨Nat.zero_le _, Nat.zero_le _⟩) (fun b_1 H locs hP hS => ?_) (fun b_1 H locs hP hS => ?_)
  · skip
    have kb_1 := b_1
    obtain ⟨jx, hjx, rfl⟩ := b_1
    refine lv_if_eq (tgt := 17) C.1.1 C.1.2.1 dX5_cryFor_4 (by decide) (fun c_2 => absurd c_2 (by decide)) (fun _ => ?_)
    refine lv_iload_n C.1.1 C.1.2.1 dX5_cryFor_7 rfl (lv_at hl 2 rfl) ?_
    refine lv_iconst (v := 0) C.1.1 C.1.2.1 dX5_cryFor_8 rfl ?_
    refine lv_bipush (v := 60) C.1.1 C.1.2.1 dX5_cryFor_9 rfl ?_
    refine a_B hS (run_S C hP hS hl.1 [.int y, .int 0, .int 60] (kX5_isWithin l g n v y 0 60) gX5_cryFor_X5_isWithin hdX5_isWithin rfl ⟨rfl, rfl⟩ ⟨Nat.le_of_ble_eq_true rfl, Nat.le_of_ble_eq_true rfl⟩ rfl [] rfl (Nat.le_of_ble_eq_true rfl) dX5_cryFor_11 ⟨Nat.zero_le _, Nat.zero_le _⟩) (fun b_3 H locs hP hS => ?_) (fun b_3 H locs hP hS => ?_)
    · skip
      have b_3 := (in_iffC 61 (by decide) (by decide)).mp b_3
      have kb_3 := b_3
      obtain ⟨jy, hjy, rfl⟩ := b_3
      refine lv_if_ne (tgt := 24) C.1.1 C.1.2.1 dX5_cryFor_14 (by decide) (fun _ => ?_) (fun c_4 => absurd c_4 (by decide))
      refine lv_iconst (v := 0) C.1.1 C.1.2.1 dX5_cryFor_24 rfl ?_
      refine lv_istore_n (lv' := [(3, .int 0), (0, .ref (gA g 0)), (1, .int (nI jx)), (2, .int (nI jy))]) C.1.1 C.1.2.1 dX5_cryFor_25 rfl hl (by decide) rfl (fun ls hl => ?_)
      have lp_26 : ∀ (k_26 i : Nat), i ≤ 12 → 12 + 1 ≤ i + k_26 → ∀ (H : Heap) (locs : List Loc) (ls : Array Slot) (u : SV), (sam v u) → (∀ j, j < i → u.1 40 j = daysM (upd (v.1 54) (7 + jx) (nI j)) jy 6) → va_P g.1 vwCl (wl g n u) H → va_S (wA g n) s.heap H locs → lv_has ls 4 [(0, .ref (gA g 0)), (1, .int (nI jx)), (2, .int (nI jy)), (3, .int (nI i))] → W p l e rmX5_cryFor s m args below meth c H locs 0 0 (MQ below (QP g n v (fun u => cryForM u (nI jx) (nI jy))) args s 0 0 (wA g n)) (F0 m 26 ls []) := by
        clear hP hS hl
        intro k_26
        induction k_26 with
        | zero => exact fun i h1 h2 => absurd h2 (by omega)
        | succ k_26 ih_26 =>
          intro i hi_26 hk_26 H locs ls u hu hO hP hS hl
          refine lv_iload_n C.1.1 C.1.2.1 dX5_cryFor_26 rfl (lv_at hl 3 rfl) ?_
          refine lv_bipush (v := 12) C.1.1 C.1.2.1 dX5_cryFor_27 rfl ?_
          refine lv_icmp_ge (tgt := 80) C.1.1 C.1.2.1 dX5_cryFor_29 (by decide) (fun c_5 => ?_) (fun c_5 => ?_)
          · rw [show (12 ≤ nI i) = (12 ≤ i) from propext (nI_leI (a := 12) (b := i) (by omega) (by omega))] at c_5
            refine lv_aload_n C.1.1 C.1.2.1 dX5_cryFor_80 rfl (lv_at hl 0 rfl) ?_
            refine lv_bipush (v := 12) C.1.1 C.1.2.1 dX5_cryFor_81 rfl ?_
            refine a_F hS (run_V C hP hS hl.1 0 5 (Nat.lt_of_lt_of_le (by decide) hn) rfl (by decide) rfl [.int 12] (kX5_firstGreatestOutcome l g n u 12 (by decide) (by decide)) gX5_cryFor_X5_firstGreatestOutcome rfl hdX5_firstGreatestOutcome rfl ⟨rfl, rfl⟩ ⟨Nat.le_of_ble_eq_true rfl, Nat.le_of_ble_eq_true rfl⟩ rfl [] rfl (Nat.le_of_ble_eq_true rfl) dX5_cryFor_83 ⟨Nat.zero_le _, Nat.zero_le _⟩) (fun H locs hP hS => ?_)
            have e54_6 : (u).1 54 = v.1 54 := (sam54 hu)
            exact t_P C rfl hP hS (ps_eq (u := u) hR (show cryForM u (nI jx) (nI jy) = ((btM (v.1 54) (7 + jx) 6 jy (11 + 1)).1, asideM u) from by simp only [cryForM, nM_of e54_6 hM, e54_6, cif_pos kb_1, cif_pos kb_3, tn_nI (show jx < 2 ^ 31 by omega), tn_nI (show jy < 2 ^ 31 by omega)]) (cry_ans hD hjx (fun j hj => hO j (by omega))) (sam_trans hu (sam_aside _))) hu.2 dX5_cryFor_86
          · rw [show (12 ≤ nI i) = (12 ≤ i) from propext (nI_leI (a := 12) (b := i) (by omega) (by omega))] at c_5
            refine lv_aload_n C.1.1 C.1.2.1 dX5_cryFor_32 rfl (lv_at hl 0 rfl) ?_
            refine r_get C hP 0 5 (Nat.lt_of_lt_of_le (by decide) hn) rfl (by decide) rfl hi5 1 (by decide) (List.mem_of_getElem? (i := 2) rfl) rfl (val := .ref (gA g 14)) rfl dX5_cryFor_33 ?_
            refine lv_aload_n C.1.1 C.1.2.1 dX5_cryFor_36 rfl (lv_at hl 0 rfl) ?_
            refine r_get C hP 0 5 (Nat.lt_of_lt_of_le (by decide) hn) rfl (by decide) rfl hi5 0 (by decide) (List.mem_of_getElem? (i := 3) rfl) rfl (val := .ref (gA g 1)) rfl dX5_cryFor_37 ?_
            refine a_G hS (run_V C hP hS hl.1 14 2 (Nat.lt_of_lt_of_le (by decide) hn) rfl (by decide) rfl [.ref (gA g 1)] (kX2_become l g n u u 14 (stR u 14) 1 N (Or.inr (Or.inl rfl)) (Or.inl rfl) (by decide) (st_self _ 14).symm (by rw [scr_1 hu.1]; exact hC)) gX5_cryFor_X2_become rfl hdX2_become rfl ⟨rfl, rfl⟩ ⟨Nat.le_of_ble_eq_true rfl, Nat.le_of_ble_eq_true rfl⟩ rfl [] rfl (Nat.le_of_ble_eq_true rfl) dX5_cryFor_40 ⟨Nat.zero_le _, Nat.zero_le _⟩) (fun H locs hP hS => ?_)
            obtain ⟨X_0, hX_0⟩ : ∃ zz, zz = becM (stR u 14) (stR u 1) N := ⟨_, rfl⟩
            rw [← hX_0] at hP
            have aX_0 : agr N (stR v 1) X_0 := by rw [hX_0, scr_1 hu.1]; exact bec_agr _ _ _
            have cX_0 : okC X_0 N := okC_agr aX_0 hC
            refine lv_aload_n C.1.1 C.1.2.1 dX5_cryFor_43 rfl (lv_at hl 0 rfl) ?_
            refine r_get C hP 0 5 (Nat.lt_of_lt_of_le (by decide) hn) rfl (by decide) rfl hi5 1 (by decide) (List.mem_of_getElem? (i := 2) rfl) rfl (val := .ref (gA g 14)) rfl dX5_cryFor_44 ?_
            refine r_get C hP 14 2 (Nat.lt_of_lt_of_le (by decide) hn) rfl (by decide) rfl hi2 3 (by decide) (List.mem_of_getElem? (i := 4) rfl) rfl (val := .ref (gA g 15)) rfl dX5_cryFor_47 ?_
            refine lv_iload_n C.1.1 C.1.2.1 dX5_cryFor_50 rfl (lv_at hl 1 rfl) ?_
            refine lv_iload_n C.1.1 C.1.2.1 dX5_cryFor_51 rfl (lv_at hl 3 rfl) ?_
            refine r_iast C hP hS 15 (Nat.lt_of_lt_of_le (by decide) hn) rfl jx rfl (N := 6) rfl (by decide) (by omega) dX5_cryFor_52 (fun H locs hP hS => ?_)
            rw [show up (stW u 14 X_0) 15 jx (nI i) = stW u 14 (upd X_0 (7 + jx) (nI i)) from st_up (i := 7 + jx) (sl_1 (by omega)) (by omega)] at hP
            refine lv_aload_n C.1.1 C.1.2.1 dX5_cryFor_53 rfl (lv_at hl 0 rfl) ?_
            refine r_get C hP 0 5 (Nat.lt_of_lt_of_le (by decide) hn) rfl (by decide) rfl hi5 1 (by decide) (List.mem_of_getElem? (i := 2) rfl) rfl (val := .ref (gA g 14)) rfl dX5_cryFor_54 ?_
            refine lv_iload_n C.1.1 C.1.2.1 dX5_cryFor_57 rfl (lv_at hl 2 rfl) ?_
            refine a_G hS (run_V C hP hS hl.1 14 2 (Nat.lt_of_lt_of_le (by decide) hn) rfl (by decide) rfl [.int (nI jy)] (kX2_passDays l g n (stW u 14 (upd X_0 (7 + jx) (nI i))) jy (by omega) u 14 (upd X_0 (7 + jx) (nI i)) N (Or.inr (Or.inl rfl)) rfl (okC_list (i := jx) cX_0 (by omega) (by omega) rfl)) gX5_cryFor_X2_passDays rfl hdX2_passDays rfl ⟨rfl, rfl⟩ ⟨Nat.le_of_ble_eq_true rfl, Nat.le_of_ble_eq_true rfl⟩ rfl [] rfl (Nat.le_of_ble_eq_true rfl) dX5_cryFor_58 ⟨Nat.zero_le _, Nat.zero_le _⟩) (fun H locs hP hS => ?_)
            refine lv_aload_n C.1.1 C.1.2.1 dX5_cryFor_61 rfl (lv_at hl 0 rfl) ?_
            refine r_get C hP 0 5 (Nat.lt_of_lt_of_le (by decide) hn) rfl (by decide) rfl hi5 4 (by decide) (List.mem_of_getElem? (i := 5) rfl) rfl (val := .ref (gA g 40)) rfl dX5_cryFor_62 ?_
            refine lv_iload_n C.1.1 C.1.2.1 dX5_cryFor_65 rfl (lv_at hl 3 rfl) ?_
            refine lv_aload_n C.1.1 C.1.2.1 dX5_cryFor_66 rfl (lv_at hl 0 rfl) ?_
            refine r_get C hP 0 5 (Nat.lt_of_lt_of_le (by decide) hn) rfl (by decide) rfl hi5 1 (by decide) (List.mem_of_getElem? (i := 2) rfl) rfl (val := .ref (gA g 14)) rfl dX5_cryFor_67 ?_
            refine r_get C hP 14 2 (Nat.lt_of_lt_of_le (by decide) hn) rfl (by decide) rfl hi2 5 (by decide) (List.mem_of_getElem? (i := 6) rfl) rfl (val := .int ((stW u 14 (daysM (upd X_0 (7 + jx) (nI i)) jy)).1 14 5)) rfl dX5_cryFor_70 ?_
            refine lv_topE ((daysM (upd (v.1 54) (7 + jx) (nI i)) jy) 6) ((st_at (i := 6) (sl_k rfl) (by decide)).trans (agr_lo (agr_days (agr_upd (agr_symm (agr_trans hA aX_0)) rfl) (okC_M (okC_list (i := jx) cX_0 (by omega) (by omega) rfl)) jy) (by decide))) ?_
            refine r_iast C hP hS 40 (Nat.lt_of_lt_of_le (by decide) hn) rfl i rfl (N := 16) rfl (by decide) (by omega) dX5_cryFor_73 (fun H locs hP hS => ?_)
            obtain ⟨v_7, hv_7⟩ : ∃ zz, zz = up (stW u 14 (daysM (upd X_0 (7 + jx) (nI i)) jy)) 40 i ((daysM (upd (v.1 54) (7 + jx) (nI i)) jy) 6) := ⟨_, rfl⟩
            rw [← hv_7] at hP
            refine lv_iinc (v := nI (i + 1)) (lv' := [(3, .int (nI (i + 1))), (0, .ref (gA g 0)), (1, .int (nI jx)), (2, .int (nI jy))]) C.1.1 C.1.2.1 dX5_cryFor_74 hl (k := 3) rfl (nI_1 i) (by decide) rfl (fun ls hl => ?_)
            refine lv_goto (tgt := 26) C.1.1 C.1.2.1 dX5_cryFor_77 (by decide) ?_
            exact ih_26 (i + 1) (by omega) (by omega) _ _ _ v_7 (by rw [hv_7]; exact (sam_trans (sam_trans hu (sam_14 _ _)) (sam_up40 _ _ _))) (by rw [hv_7, upw_same, st_far (by decide)]; exact out_step hO rfl) hP hS (lv_sub hl [1, 2, 3, 0] rfl)
      exact lp_26 (12 + 1) 0 (Nat.zero_le _) (by omega) _ _ _ v (sam_rfl v) (fun j h => absurd h (Nat.not_lt_zero j)) hP hS (lv_sub hl [1, 2, 3, 0] rfl)
    · skip
      have b_3 := fun h => b_3 ((in_iffC 61 (by decide) (by decide)).mpr h)
      refine lv_if_ne (tgt := 24) C.1.1 C.1.2.1 dX5_cryFor_14 (by decide) (fun c_8 => absurd c_8 (by decide)) (fun _ => ?_)
      refine lv_aload_n C.1.1 C.1.2.1 dX5_cryFor_17 rfl (lv_at hl 0 rfl) ?_
      refine lv_ldc (v := (-1000001)) C.1.1 C.1.2.1 C.1.2.2.2.1 (C.1.2.2.2.2 _ (List.mem_of_getElem? (i := 1) rfl)) dX5_cryFor_18 ?_
      refine a_F hS (run_V C hP hS hl.1 0 5 (Nat.lt_of_lt_of_le (by decide) hn) rfl (by decide) rfl [.int (-1000001)] (kX5_finding l g n v 0 (by decide) (-1000001) rfl) gX5_cryFor_X5_finding rfl hdX5_finding rfl ⟨rfl, rfl⟩ ⟨Nat.le_of_ble_eq_true rfl, Nat.le_of_ble_eq_true rfl⟩ rfl [] rfl (Nat.le_of_ble_eq_true rfl) dX5_cryFor_20 ⟨Nat.zero_le _, Nat.zero_le _⟩) (fun H locs hP hS => ?_)
      have e54_9 : (fnC v 0).1 54 = v.1 54 := (upw_ne _ _ (by decide))
      exact t_P C rfl hP hS (ps_fd (f := fun u => cryForM u (nI jx) y) hR (sam_rfl v) (by decide) (by simp only [cryForM, nM_of e54_9 hM, e54_9, cif_pos kb_1, cif_neg b_3, tn_nI (show jx < 2 ^ 31 by omega)]) rfl) (rsc_trans (rsc_rfl v) (rsc_w _ _ (by decide))) dX5_cryFor_23
  · skip
    refine lv_if_eq (tgt := 17) C.1.1 C.1.2.1 dX5_cryFor_4 (by decide) (fun _ => ?_) (fun c_10 => absurd c_10 (by decide))
    refine lv_aload_n C.1.1 C.1.2.1 dX5_cryFor_17 rfl (lv_at hl 0 rfl) ?_
    refine lv_ldc (v := (-1000001)) C.1.1 C.1.2.1 C.1.2.2.2.1 (C.1.2.2.2.2 _ (List.mem_of_getElem? (i := 1) rfl)) dX5_cryFor_18 ?_
    refine a_F hS (run_V C hP hS hl.1 0 5 (Nat.lt_of_lt_of_le (by decide) hn) rfl (by decide) rfl [.int (-1000001)] (kX5_finding l g n v 0 (by decide) (-1000001) rfl) gX5_cryFor_X5_finding rfl hdX5_finding rfl ⟨rfl, rfl⟩ ⟨Nat.le_of_ble_eq_true rfl, Nat.le_of_ble_eq_true rfl⟩ rfl [] rfl (Nat.le_of_ble_eq_true rfl) dX5_cryFor_20 ⟨Nat.zero_le _, Nat.zero_le _⟩) (fun H locs hP hS => ?_)
    have e54_11 : (fnC v 0).1 54 = v.1 54 := (upw_ne _ _ (by decide))
    exact t_P C rfl hP hS (ps_fd (f := fun u => cryForM u x y) hR (sam_rfl v) (by decide) (by simp only [cryForM, nM_of e54_11 hM, e54_11, cif_neg b_1]) rfl) (rsc_trans (rsc_rfl v) (rsc_w _ _ (by decide))) dX5_cryFor_23

abbrev rmX5_startFor : Room := { frames := 7, cells := 0, slots := 0, locals := 155 }
set_option maxHeartbeats 4000000 in
set_option maxRecDepth 100000 in
theorem kX5_startFor (l : Launch) (g : GG) (n : Nat) (v : SV) (x : Int32) (N : Nat) (hR : Rl v N) : Met l yX5_startFor wsX5_startFor rmX5_startFor (PW g n v [.ref (gA g 0), .int x]) (QP g n v (fun u => startForM u x)) 0 0 (wA g n) := by
  refine Met.begin RX5 rfl (by decide) rfl (Nat.le_of_ble_eq_true rfl) ?_
  intro p e s m args below meth c ls ha C hP hS hl
  have hn : 64 ≤ n := C.2.1.1.2.1
  have hi0 : ∀ w ∈ u_ws RX0 TX0 6, w ∈ wsX5_startFor := by decide +kernel
  have hi2 : ∀ w ∈ u_ws RX2 TX2 11, w ∈ wsX5_startFor := by decide +kernel
  have hi5 : ∀ w ∈ u_ws RX5 TX5 8, w ∈ wsX5_startFor := by decide +kernel
  have hl : lv_has ls 3 [(0, .ref (gA g 0)), (1, .int x)] := hl
  have hC := hR.1.1
  have hA := hR.1.2
  have h8 := hC.1
  have hD : okC (v.1 54) N := okC_agr (agr_symm hA) hC
  have hM := okC_M hD
  refine lv_iload_n C.1.1 C.1.2.1 dX5_startFor_0 rfl (lv_at hl 1 rfl) ?_
  refine lv_iconst (v := 0) C.1.1 C.1.2.1 dX5_startFor_1 rfl ?_
  refine lv_bipush (v := 60) C.1.1 C.1.2.1 dX5_startFor_2 rfl ?_
  refine a_B hS (run_S C hP hS hl.1 [.int x, .int 0, .int 60] (kX5_isWithin l g n v x 0 60) gX5_startFor_X5_isWithin hdX5_isWithin rfl ⟨rfl, rfl⟩ ⟨Nat.le_of_ble_eq_true rfl, Nat.le_of_ble_eq_true rfl⟩ rfl [] rfl (Nat.le_of_ble_eq_true rfl) dX5_startFor_4 ⟨Nat.zero_le _, Nat.zero_le _⟩) (fun b_1 H locs hP hS => ?_) (fun b_1 H locs hP hS => ?_)
  · skip
    have b_1 := (in_iffC 61 (by decide) (by decide)).mp b_1
    have kb_1 := b_1
    obtain ⟨jx, hjx, rfl⟩ := b_1
    refine lv_if_ne (tgt := 17) C.1.1 C.1.2.1 dX5_startFor_7 (by decide) (fun _ => ?_) (fun c_2 => absurd c_2 (by decide))
    refine lv_iconst (v := 0) C.1.1 C.1.2.1 dX5_startFor_17 rfl ?_
    refine lv_istore_n (lv' := [(2, .int 0), (0, .ref (gA g 0)), (1, .int (nI jx))]) C.1.1 C.1.2.1 dX5_startFor_18 rfl hl (by decide) rfl (fun ls hl => ?_)
    have lp_19 : ∀ (k_19 i : Nat), i ≤ 16 → 16 + 1 ≤ i + k_19 → ∀ (H : Heap) (locs : List Loc) (ls : Array Slot) (u : SV), (sam v u) → (∀ j, j < i → u.1 40 j = daysM (upd (v.1 54) 3 (nI j)) jx 6) → va_P g.1 vwCl (wl g n u) H → va_S (wA g n) s.heap H locs → lv_has ls 3 [(0, .ref (gA g 0)), (1, .int (nI jx)), (2, .int (nI i))] → W p l e rmX5_startFor s m args below meth c H locs 0 0 (MQ below (QP g n v (fun u => startForM u (nI jx))) args s 0 0 (wA g n)) (F0 m 19 ls []) := by
      clear hP hS hl
      intro k_19
      induction k_19 with
      | zero => exact fun i h1 h2 => absurd h2 (by omega)
      | succ k_19 ih_19 =>
        intro i hi_19 hk_19 H locs ls u hu hO hP hS hl
        refine lv_iload_n C.1.1 C.1.2.1 dX5_startFor_19 rfl (lv_at hl 2 rfl) ?_
        refine lv_bipush (v := 16) C.1.1 C.1.2.1 dX5_startFor_20 rfl ?_
        refine lv_icmp_ge (tgt := 71) C.1.1 C.1.2.1 dX5_startFor_22 (by decide) (fun c_3 => ?_) (fun c_3 => ?_)
        · rw [show (16 ≤ nI i) = (16 ≤ i) from propext (nI_leI (a := 16) (b := i) (by omega) (by omega))] at c_3
          refine lv_aload_n C.1.1 C.1.2.1 dX5_startFor_71 rfl (lv_at hl 0 rfl) ?_
          refine lv_bipush (v := 16) C.1.1 C.1.2.1 dX5_startFor_72 rfl ?_
          refine a_F hS (run_V C hP hS hl.1 0 5 (Nat.lt_of_lt_of_le (by decide) hn) rfl (by decide) rfl [.int 16] (kX5_firstGreatestOutcome l g n u 16 (by decide) (by decide)) gX5_startFor_X5_firstGreatestOutcome rfl hdX5_firstGreatestOutcome rfl ⟨rfl, rfl⟩ ⟨Nat.le_of_ble_eq_true rfl, Nat.le_of_ble_eq_true rfl⟩ rfl [] rfl (Nat.le_of_ble_eq_true rfl) dX5_startFor_74 ⟨Nat.zero_le _, Nat.zero_le _⟩) (fun H locs hP hS => ?_)
          have e54_4 : (u).1 54 = v.1 54 := (sam54 hu)
          exact t_P C rfl hP hS (ps_eq (u := u) hR (show startForM u (nI jx) = ((btM (v.1 54) 3 6 jx (15 + 1)).1, asideM u) from by simp only [startForM, nM_of e54_4 hM, e54_4, cif_pos kb_1, tn_nI (show jx < 2 ^ 31 by omega)]) (start_ans hD (fun j hj => hO j (by omega))) (sam_trans hu (sam_aside _))) hu.2 dX5_startFor_77
        · rw [show (16 ≤ nI i) = (16 ≤ i) from propext (nI_leI (a := 16) (b := i) (by omega) (by omega))] at c_3
          refine lv_aload_n C.1.1 C.1.2.1 dX5_startFor_25 rfl (lv_at hl 0 rfl) ?_
          refine r_get C hP 0 5 (Nat.lt_of_lt_of_le (by decide) hn) rfl (by decide) rfl hi5 1 (by decide) (List.mem_of_getElem? (i := 2) rfl) rfl (val := .ref (gA g 14)) rfl dX5_startFor_26 ?_
          refine lv_aload_n C.1.1 C.1.2.1 dX5_startFor_29 rfl (lv_at hl 0 rfl) ?_
          refine r_get C hP 0 5 (Nat.lt_of_lt_of_le (by decide) hn) rfl (by decide) rfl hi5 0 (by decide) (List.mem_of_getElem? (i := 3) rfl) rfl (val := .ref (gA g 1)) rfl dX5_startFor_30 ?_
          refine a_G hS (run_V C hP hS hl.1 14 2 (Nat.lt_of_lt_of_le (by decide) hn) rfl (by decide) rfl [.ref (gA g 1)] (kX2_become l g n u u 14 (stR u 14) 1 N (Or.inr (Or.inl rfl)) (Or.inl rfl) (by decide) (st_self _ 14).symm (by rw [scr_1 hu.1]; exact hC)) gX5_startFor_X2_become rfl hdX2_become rfl ⟨rfl, rfl⟩ ⟨Nat.le_of_ble_eq_true rfl, Nat.le_of_ble_eq_true rfl⟩ rfl [] rfl (Nat.le_of_ble_eq_true rfl) dX5_startFor_33 ⟨Nat.zero_le _, Nat.zero_le _⟩) (fun H locs hP hS => ?_)
          obtain ⟨X_0, hX_0⟩ : ∃ zz, zz = becM (stR u 14) (stR u 1) N := ⟨_, rfl⟩
          rw [← hX_0] at hP
          have aX_0 : agr N (stR v 1) X_0 := by rw [hX_0, scr_1 hu.1]; exact bec_agr _ _ _
          have cX_0 : okC X_0 N := okC_agr aX_0 hC
          refine lv_aload_n C.1.1 C.1.2.1 dX5_startFor_36 rfl (lv_at hl 0 rfl) ?_
          refine r_get C hP 0 5 (Nat.lt_of_lt_of_le (by decide) hn) rfl (by decide) rfl hi5 1 (by decide) (List.mem_of_getElem? (i := 2) rfl) rfl (val := .ref (gA g 14)) rfl dX5_startFor_37 ?_
          refine lv_iload_n C.1.1 C.1.2.1 dX5_startFor_40 rfl (lv_at hl 2 rfl) ?_
          refine r_put C hP hS 14 2 (Nat.lt_of_lt_of_le (by decide) hn) rfl (by decide) rfl hi2 tyX2 tyX2_ok nmX2 0 (by decide) (List.mem_of_getElem? (i := 4) rfl) rfl rfl rfl rfl rfl (Nat.le_of_ble_eq_true rfl) dX5_startFor_41 (fun H locs hP hS => ?_)
          rw [show up (stW u 14 X_0) 14 0 (nI i) = stW u 14 (upd X_0 3 (nI i)) from st_up (i := 3) (sl_k rfl) (by decide)] at hP
          refine lv_aload_n C.1.1 C.1.2.1 dX5_startFor_44 rfl (lv_at hl 0 rfl) ?_
          refine r_get C hP 0 5 (Nat.lt_of_lt_of_le (by decide) hn) rfl (by decide) rfl hi5 1 (by decide) (List.mem_of_getElem? (i := 2) rfl) rfl (val := .ref (gA g 14)) rfl dX5_startFor_45 ?_
          refine lv_iload_n C.1.1 C.1.2.1 dX5_startFor_48 rfl (lv_at hl 1 rfl) ?_
          refine a_G hS (run_V C hP hS hl.1 14 2 (Nat.lt_of_lt_of_le (by decide) hn) rfl (by decide) rfl [.int (nI jx)] (kX2_passDays l g n (stW u 14 (upd X_0 3 (nI i))) jx (by omega) u 14 (upd X_0 3 (nI i)) N (Or.inr (Or.inl rfl)) rfl (okC_upd cX_0 (by decide) (Or.inr ⟨_, (by show _ < (16 : Nat); omega), rfl⟩))) gX5_startFor_X2_passDays rfl hdX2_passDays rfl ⟨rfl, rfl⟩ ⟨Nat.le_of_ble_eq_true rfl, Nat.le_of_ble_eq_true rfl⟩ rfl [] rfl (Nat.le_of_ble_eq_true rfl) dX5_startFor_49 ⟨Nat.zero_le _, Nat.zero_le _⟩) (fun H locs hP hS => ?_)
          refine lv_aload_n C.1.1 C.1.2.1 dX5_startFor_52 rfl (lv_at hl 0 rfl) ?_
          refine r_get C hP 0 5 (Nat.lt_of_lt_of_le (by decide) hn) rfl (by decide) rfl hi5 4 (by decide) (List.mem_of_getElem? (i := 5) rfl) rfl (val := .ref (gA g 40)) rfl dX5_startFor_53 ?_
          refine lv_iload_n C.1.1 C.1.2.1 dX5_startFor_56 rfl (lv_at hl 2 rfl) ?_
          refine lv_aload_n C.1.1 C.1.2.1 dX5_startFor_57 rfl (lv_at hl 0 rfl) ?_
          refine r_get C hP 0 5 (Nat.lt_of_lt_of_le (by decide) hn) rfl (by decide) rfl hi5 1 (by decide) (List.mem_of_getElem? (i := 2) rfl) rfl (val := .ref (gA g 14)) rfl dX5_startFor_58 ?_
          refine r_get C hP 14 2 (Nat.lt_of_lt_of_le (by decide) hn) rfl (by decide) rfl hi2 5 (by decide) (List.mem_of_getElem? (i := 6) rfl) rfl (val := .int ((stW u 14 (daysM (upd X_0 3 (nI i)) jx)).1 14 5)) rfl dX5_startFor_61 ?_
          refine lv_topE ((daysM (upd (v.1 54) 3 (nI i)) jx) 6) ((st_at (i := 6) (sl_k rfl) (by decide)).trans (agr_lo (agr_days (agr_upd (agr_symm (agr_trans hA aX_0)) rfl) (okC_M (okC_upd cX_0 (by decide) (Or.inr ⟨_, (by show _ < (16 : Nat); omega), rfl⟩))) jx) (by decide))) ?_
          refine r_iast C hP hS 40 (Nat.lt_of_lt_of_le (by decide) hn) rfl i rfl (N := 16) rfl (by decide) (by omega) dX5_startFor_64 (fun H locs hP hS => ?_)
          obtain ⟨v_6, hv_6⟩ : ∃ zz, zz = up (stW u 14 (daysM (upd X_0 3 (nI i)) jx)) 40 i ((daysM (upd (v.1 54) 3 (nI i)) jx) 6) := ⟨_, rfl⟩
          rw [← hv_6] at hP
          refine lv_iinc (v := nI (i + 1)) (lv' := [(2, .int (nI (i + 1))), (0, .ref (gA g 0)), (1, .int (nI jx))]) C.1.1 C.1.2.1 dX5_startFor_65 hl (k := 2) rfl (nI_1 i) (by decide) rfl (fun ls hl => ?_)
          refine lv_goto (tgt := 19) C.1.1 C.1.2.1 dX5_startFor_68 (by decide) ?_
          exact ih_19 (i + 1) (by omega) (by omega) _ _ _ v_6 (by rw [hv_6]; exact (sam_trans (sam_trans hu (sam_14 _ _)) (sam_up40 _ _ _))) (by rw [hv_6, upw_same, st_far (by decide)]; exact out_step hO rfl) hP hS (lv_sub hl [1, 2, 0] rfl)
    exact lp_19 (16 + 1) 0 (Nat.zero_le _) (by omega) _ _ _ v (sam_rfl v) (fun j h => absurd h (Nat.not_lt_zero j)) hP hS (lv_sub hl [1, 2, 0] rfl)
  · skip
    have b_1 := fun h => b_1 ((in_iffC 61 (by decide) (by decide)).mpr h)
    refine lv_if_ne (tgt := 17) C.1.1 C.1.2.1 dX5_startFor_7 (by decide) (fun c_7 => absurd c_7 (by decide)) (fun _ => ?_)
    refine lv_aload_n C.1.1 C.1.2.1 dX5_startFor_10 rfl (lv_at hl 0 rfl) ?_
    refine lv_ldc (v := (-1000001)) C.1.1 C.1.2.1 C.1.2.2.2.1 (C.1.2.2.2.2 _ (List.mem_of_getElem? (i := 1) rfl)) dX5_startFor_11 ?_
    refine a_F hS (run_V C hP hS hl.1 0 5 (Nat.lt_of_lt_of_le (by decide) hn) rfl (by decide) rfl [.int (-1000001)] (kX5_finding l g n v 0 (by decide) (-1000001) rfl) gX5_startFor_X5_finding rfl hdX5_finding rfl ⟨rfl, rfl⟩ ⟨Nat.le_of_ble_eq_true rfl, Nat.le_of_ble_eq_true rfl⟩ rfl [] rfl (Nat.le_of_ble_eq_true rfl) dX5_startFor_13 ⟨Nat.zero_le _, Nat.zero_le _⟩) (fun H locs hP hS => ?_)
    have e54_8 : (fnC v 0).1 54 = v.1 54 := (upw_ne _ _ (by decide))
    exact t_P C rfl hP hS (ps_fd (f := fun u => startForM u x) hR (sam_rfl v) (by decide) (by simp only [startForM, nM_of e54_8 hM, e54_8, cif_neg b_1]) rfl) (rsc_trans (rsc_rfl v) (rsc_w _ _ (by decide))) dX5_startFor_16

abbrev rmX5_kindFor : Room := { frames := 7, cells := 0, slots := 0, locals := 155 }
set_option maxHeartbeats 4000000 in
set_option maxRecDepth 100000 in
theorem kX5_kindFor (l : Launch) (g : GG) (n : Nat) (v : SV) (x y : Int32) (N : Nat) (hR : Rl v N) : Met l yX5_kindFor wsX5_kindFor rmX5_kindFor (PW g n v [.ref (gA g 0), .int x, .int y]) (QP g n v (fun u => kindForM u x y)) 0 0 (wA g n) := by
  refine Met.begin RX5 rfl (by decide) rfl (Nat.le_of_ble_eq_true rfl) ?_
  intro p e s m args below meth c ls ha C hP hS hl
  have hn : 64 ≤ n := C.2.1.1.2.1
  have hi0 : ∀ w ∈ u_ws RX0 TX0 6, w ∈ wsX5_kindFor := by decide +kernel
  have hi2 : ∀ w ∈ u_ws RX2 TX2 11, w ∈ wsX5_kindFor := by decide +kernel
  have hi5 : ∀ w ∈ u_ws RX5 TX5 8, w ∈ wsX5_kindFor := by decide +kernel
  have hl : lv_has ls 4 [(0, .ref (gA g 0)), (1, .int x), (2, .int y)] := hl
  have hC := hR.1.1
  have hA := hR.1.2
  have h8 := hC.1
  have hD : okC (v.1 54) N := okC_agr (agr_symm hA) hC
  have hM := okC_M hD
  refine lv_aload_n C.1.1 C.1.2.1 dX5_kindFor_0 rfl (lv_at hl 0 rfl) ?_
  refine r_get C hP 0 5 (Nat.lt_of_lt_of_le (by decide) hn) rfl (by decide) rfl hi5 0 (by decide) (List.mem_of_getElem? (i := 1) rfl) rfl (val := .ref (gA g 1)) rfl dX5_kindFor_1 ?_
  refine lv_iload_n C.1.1 C.1.2.1 dX5_kindFor_4 rfl (lv_at hl 1 rfl) ?_
  refine a_B hS (run_V C hP hS hl.1 1 2 (Nat.lt_of_lt_of_le (by decide) hn) rfl (by decide) rfl [.int x] (kX2_has l g n v x v 1 (stR v 1) N (Or.inl rfl) (scr_self (sam_rfl v).1) hC) gX5_kindFor_X2_has rfl hdX2_has rfl ⟨rfl, rfl⟩ ⟨Nat.le_of_ble_eq_true rfl, Nat.le_of_ble_eq_true rfl⟩ rfl [] rfl (Nat.le_of_ble_eq_true rfl) dX5_kindFor_5 ⟨Nat.zero_le _, Nat.zero_le _⟩) (fun b_1 H locs hP hS => ?_) (fun b_1 H locs hP hS => ?_)
  · skip
    have kb_1 := b_1
    obtain ⟨jx, hjx, rfl⟩ := b_1
    refine lv_if_eq (tgt := 21) C.1.1 C.1.2.1 dX5_kindFor_8 (by decide) (fun c_2 => absurd c_2 (by decide)) (fun _ => ?_)
    refine lv_iload_n C.1.1 C.1.2.1 dX5_kindFor_11 rfl (lv_at hl 2 rfl) ?_
    refine lv_iconst (v := 0) C.1.1 C.1.2.1 dX5_kindFor_12 rfl ?_
    refine lv_bipush (v := 60) C.1.1 C.1.2.1 dX5_kindFor_13 rfl ?_
    refine a_B hS (run_S C hP hS hl.1 [.int y, .int 0, .int 60] (kX5_isWithin l g n v y 0 60) gX5_kindFor_X5_isWithin hdX5_isWithin rfl ⟨rfl, rfl⟩ ⟨Nat.le_of_ble_eq_true rfl, Nat.le_of_ble_eq_true rfl⟩ rfl [] rfl (Nat.le_of_ble_eq_true rfl) dX5_kindFor_15 ⟨Nat.zero_le _, Nat.zero_le _⟩) (fun b_3 H locs hP hS => ?_) (fun b_3 H locs hP hS => ?_)
    · skip
      have b_3 := (in_iffC 61 (by decide) (by decide)).mp b_3
      have kb_3 := b_3
      obtain ⟨jy, hjy, rfl⟩ := b_3
      refine lv_if_ne (tgt := 28) C.1.1 C.1.2.1 dX5_kindFor_18 (by decide) (fun _ => ?_) (fun c_4 => absurd c_4 (by decide))
      refine lv_iconst (v := 0) C.1.1 C.1.2.1 dX5_kindFor_28 rfl ?_
      refine lv_istore_n (lv' := [(3, .int 0), (0, .ref (gA g 0)), (1, .int (nI jx)), (2, .int (nI jy))]) C.1.1 C.1.2.1 dX5_kindFor_29 rfl hl (by decide) rfl (fun ls hl => ?_)
      have lp_30 : ∀ (k_30 i : Nat), i ≤ 7 → 7 + 1 ≤ i + k_30 → ∀ (H : Heap) (locs : List Loc) (ls : Array Slot) (u : SV), (sam v u) → (∀ j, j < i → u.1 40 j = daysM (upd (v.1 54) (25 + jx) (nI j)) jy (57 + jx)) → va_P g.1 vwCl (wl g n u) H → va_S (wA g n) s.heap H locs → lv_has ls 4 [(0, .ref (gA g 0)), (1, .int (nI jx)), (2, .int (nI jy)), (3, .int (nI i))] → W p l e rmX5_kindFor s m args below meth c H locs 0 0 (MQ below (QP g n v (fun u => kindForM u (nI jx) (nI jy))) args s 0 0 (wA g n)) (F0 m 30 ls []) := by
        clear hP hS hl
        intro k_30
        induction k_30 with
        | zero => exact fun i h1 h2 => absurd h2 (by omega)
        | succ k_30 ih_30 =>
          intro i hi_30 hk_30 H locs ls u hu hO hP hS hl
          refine lv_iload_n C.1.1 C.1.2.1 dX5_kindFor_30 rfl (lv_at hl 3 rfl) ?_
          refine lv_bipush (v := 7) C.1.1 C.1.2.1 dX5_kindFor_31 rfl ?_
          refine lv_icmp_ge (tgt := 92) C.1.1 C.1.2.1 dX5_kindFor_33 (by decide) (fun c_5 => ?_) (fun c_5 => ?_)
          · rw [show (7 ≤ nI i) = (7 ≤ i) from propext (nI_leI (a := 7) (b := i) (by omega) (by omega))] at c_5
            refine lv_aload_n C.1.1 C.1.2.1 dX5_kindFor_92 rfl (lv_at hl 0 rfl) ?_
            refine lv_bipush (v := 7) C.1.1 C.1.2.1 dX5_kindFor_93 rfl ?_
            refine a_F hS (run_V C hP hS hl.1 0 5 (Nat.lt_of_lt_of_le (by decide) hn) rfl (by decide) rfl [.int 7] (kX5_firstGreatestOutcome l g n u 7 (by decide) (by decide)) gX5_kindFor_X5_firstGreatestOutcome rfl hdX5_firstGreatestOutcome rfl ⟨rfl, rfl⟩ ⟨Nat.le_of_ble_eq_true rfl, Nat.le_of_ble_eq_true rfl⟩ rfl [] rfl (Nat.le_of_ble_eq_true rfl) dX5_kindFor_95 ⟨Nat.zero_le _, Nat.zero_le _⟩) (fun H locs hP hS => ?_)
            have e54_6 : (u).1 54 = v.1 54 := (sam54 hu)
            exact t_P C rfl hP hS (ps_eq (u := u) hR (show kindForM u (nI jx) (nI jy) = ((btM (v.1 54) (25 + jx) (57 + jx) jy (6 + 1)).1, asideM u) from by simp only [kindForM, nM_of e54_6 hM, e54_6, cif_pos kb_1, cif_pos kb_3, tn_nI (show jx < 2 ^ 31 by omega), tn_nI (show jy < 2 ^ 31 by omega)]) (kind_ans hD hjx (fun j hj => hO j (by omega))) (sam_trans hu (sam_aside _))) hu.2 dX5_kindFor_98
          · rw [show (7 ≤ nI i) = (7 ≤ i) from propext (nI_leI (a := 7) (b := i) (by omega) (by omega))] at c_5
            refine lv_aload_n C.1.1 C.1.2.1 dX5_kindFor_36 rfl (lv_at hl 0 rfl) ?_
            refine r_get C hP 0 5 (Nat.lt_of_lt_of_le (by decide) hn) rfl (by decide) rfl hi5 1 (by decide) (List.mem_of_getElem? (i := 3) rfl) rfl (val := .ref (gA g 14)) rfl dX5_kindFor_37 ?_
            refine lv_aload_n C.1.1 C.1.2.1 dX5_kindFor_40 rfl (lv_at hl 0 rfl) ?_
            refine r_get C hP 0 5 (Nat.lt_of_lt_of_le (by decide) hn) rfl (by decide) rfl hi5 0 (by decide) (List.mem_of_getElem? (i := 1) rfl) rfl (val := .ref (gA g 1)) rfl dX5_kindFor_41 ?_
            refine a_G hS (run_V C hP hS hl.1 14 2 (Nat.lt_of_lt_of_le (by decide) hn) rfl (by decide) rfl [.ref (gA g 1)] (kX2_become l g n u u 14 (stR u 14) 1 N (Or.inr (Or.inl rfl)) (Or.inl rfl) (by decide) (st_self _ 14).symm (by rw [scr_1 hu.1]; exact hC)) gX5_kindFor_X2_become rfl hdX2_become rfl ⟨rfl, rfl⟩ ⟨Nat.le_of_ble_eq_true rfl, Nat.le_of_ble_eq_true rfl⟩ rfl [] rfl (Nat.le_of_ble_eq_true rfl) dX5_kindFor_44 ⟨Nat.zero_le _, Nat.zero_le _⟩) (fun H locs hP hS => ?_)
            obtain ⟨X_0, hX_0⟩ : ∃ zz, zz = becM (stR u 14) (stR u 1) N := ⟨_, rfl⟩
            rw [← hX_0] at hP
            have aX_0 : agr N (stR v 1) X_0 := by rw [hX_0, scr_1 hu.1]; exact bec_agr _ _ _
            have cX_0 : okC X_0 N := okC_agr aX_0 hC
            refine lv_aload_n C.1.1 C.1.2.1 dX5_kindFor_47 rfl (lv_at hl 0 rfl) ?_
            refine r_get C hP 0 5 (Nat.lt_of_lt_of_le (by decide) hn) rfl (by decide) rfl hi5 1 (by decide) (List.mem_of_getElem? (i := 3) rfl) rfl (val := .ref (gA g 14)) rfl dX5_kindFor_48 ?_
            refine r_get C hP 14 2 (Nat.lt_of_lt_of_le (by decide) hn) rfl (by decide) rfl hi2 9 (by decide) (List.mem_of_getElem? (i := 4) rfl) rfl (val := .ref (gA g 17)) rfl dX5_kindFor_51 ?_
            refine lv_iload_n C.1.1 C.1.2.1 dX5_kindFor_54 rfl (lv_at hl 1 rfl) ?_
            refine r_aald C hP 17 (Nat.lt_of_lt_of_le (by decide) hn) rfl jx rfl (by omega) dX5_kindFor_55 ?_
            refine lv_iload_n C.1.1 C.1.2.1 dX5_kindFor_56 rfl (lv_at hl 3 rfl) ?_
            refine r_put C hP hS (14 + 5 + jx) 0 (by omega) (kd_stR 14 (Or.inr (Or.inl rfl)) jx (by omega)) (by decide) rfl hi0 tyX0 tyX0_ok nmX0 0 (by decide) (List.mem_of_getElem? (i := 5) rfl) rfl rfl rfl rfl rfl (Nat.le_of_ble_eq_true rfl) dX5_kindFor_57 (fun H locs hP hS => ?_)
            rw [show up (stW u 14 X_0) (14 + 5 + jx) 0 (nI i) = stW u 14 (upd X_0 (25 + 8 * 0 + jx) (nI i)) from st_up (i := 25 + 8 * 0 + jx) (sl_5 (r := jx) (w := 0) (by omega) (by decide)) (by omega)] at hP
            refine lv_aload_n C.1.1 C.1.2.1 dX5_kindFor_60 rfl (lv_at hl 0 rfl) ?_
            refine r_get C hP 0 5 (Nat.lt_of_lt_of_le (by decide) hn) rfl (by decide) rfl hi5 1 (by decide) (List.mem_of_getElem? (i := 3) rfl) rfl (val := .ref (gA g 14)) rfl dX5_kindFor_61 ?_
            refine lv_iload_n C.1.1 C.1.2.1 dX5_kindFor_64 rfl (lv_at hl 2 rfl) ?_
            refine a_G hS (run_V C hP hS hl.1 14 2 (Nat.lt_of_lt_of_le (by decide) hn) rfl (by decide) rfl [.int (nI jy)] (kX2_passDays l g n (stW u 14 (upd X_0 (25 + 8 * 0 + jx) (nI i))) jy (by omega) u 14 (upd X_0 (25 + 8 * 0 + jx) (nI i)) N (Or.inr (Or.inl rfl)) rfl (okC_res (w := 0) (r := jx) cX_0 (by decide) (by omega) (by show _ < (7 : Nat); omega) rfl)) gX5_kindFor_X2_passDays rfl hdX2_passDays rfl ⟨rfl, rfl⟩ ⟨Nat.le_of_ble_eq_true rfl, Nat.le_of_ble_eq_true rfl⟩ rfl [] rfl (Nat.le_of_ble_eq_true rfl) dX5_kindFor_65 ⟨Nat.zero_le _, Nat.zero_le _⟩) (fun H locs hP hS => ?_)
            refine lv_aload_n C.1.1 C.1.2.1 dX5_kindFor_68 rfl (lv_at hl 0 rfl) ?_
            refine r_get C hP 0 5 (Nat.lt_of_lt_of_le (by decide) hn) rfl (by decide) rfl hi5 4 (by decide) (List.mem_of_getElem? (i := 6) rfl) rfl (val := .ref (gA g 40)) rfl dX5_kindFor_69 ?_
            refine lv_iload_n C.1.1 C.1.2.1 dX5_kindFor_72 rfl (lv_at hl 3 rfl) ?_
            refine lv_aload_n C.1.1 C.1.2.1 dX5_kindFor_73 rfl (lv_at hl 0 rfl) ?_
            refine r_get C hP 0 5 (Nat.lt_of_lt_of_le (by decide) hn) rfl (by decide) rfl hi5 1 (by decide) (List.mem_of_getElem? (i := 3) rfl) rfl (val := .ref (gA g 14)) rfl dX5_kindFor_74 ?_
            refine r_get C hP 14 2 (Nat.lt_of_lt_of_le (by decide) hn) rfl (by decide) rfl hi2 9 (by decide) (List.mem_of_getElem? (i := 4) rfl) rfl (val := .ref (gA g 17)) rfl dX5_kindFor_77 ?_
            refine lv_iload_n C.1.1 C.1.2.1 dX5_kindFor_80 rfl (lv_at hl 1 rfl) ?_
            refine r_aald C hP 17 (Nat.lt_of_lt_of_le (by decide) hn) rfl jx rfl (by omega) dX5_kindFor_81 ?_
            refine r_get C hP (14 + 5 + jx) 0 (by omega) (kd_stR 14 (Or.inr (Or.inl rfl)) jx (by omega)) (by decide) rfl hi0 4 (by decide) (List.mem_of_getElem? (i := 7) rfl) rfl (val := .int ((stW u 14 (daysM (upd X_0 (25 + 8 * 0 + jx) (nI i)) jy)).1 (14 + 5 + jx) 4)) rfl dX5_kindFor_82 ?_
            refine lv_topE (rowM (daysM (upd (v.1 54) (25 + 8 * 0 + jx) (nI i)) jy) jx 4) ((st_at (i := 25 + 8 * 4 + jx) (sl_5 (r := jx) (w := 4) (by omega) (by decide)) (by omega)).trans (agr_six (agr_days (agr_upd (agr_symm (agr_trans hA aX_0)) rfl) (okC_M (okC_res (w := 0) (r := jx) cX_0 (by decide) (by omega) (by show _ < (7 : Nat); omega) rfl)) jy) hjx h8 4 (by decide))) ?_
            refine r_iast C hP hS 40 (Nat.lt_of_lt_of_le (by decide) hn) rfl i rfl (N := 16) rfl (by decide) (by omega) dX5_kindFor_85 (fun H locs hP hS => ?_)
            obtain ⟨v_8, hv_8⟩ : ∃ zz, zz = up (stW u 14 (daysM (upd X_0 (25 + 8 * 0 + jx) (nI i)) jy)) 40 i (rowM (daysM (upd (v.1 54) (25 + 8 * 0 + jx) (nI i)) jy) jx 4) := ⟨_, rfl⟩
            rw [← hv_8] at hP
            refine lv_iinc (v := nI (i + 1)) (lv' := [(3, .int (nI (i + 1))), (0, .ref (gA g 0)), (1, .int (nI jx)), (2, .int (nI jy))]) C.1.1 C.1.2.1 dX5_kindFor_86 hl (k := 3) rfl (nI_1 i) (by decide) rfl (fun ls hl => ?_)
            refine lv_goto (tgt := 30) C.1.1 C.1.2.1 dX5_kindFor_89 (by decide) ?_
            exact ih_30 (i + 1) (by omega) (by omega) _ _ _ v_8 (by rw [hv_8]; exact (sam_trans (sam_trans hu (sam_14 _ _)) (sam_up40 _ _ _))) (by rw [hv_8, upw_same, st_far (by decide)]; exact out_step hO rfl) hP hS (lv_sub hl [1, 2, 3, 0] rfl)
      exact lp_30 (7 + 1) 0 (Nat.zero_le _) (by omega) _ _ _ v (sam_rfl v) (fun j h => absurd h (Nat.not_lt_zero j)) hP hS (lv_sub hl [1, 2, 3, 0] rfl)
    · skip
      have b_3 := fun h => b_3 ((in_iffC 61 (by decide) (by decide)).mpr h)
      refine lv_if_ne (tgt := 28) C.1.1 C.1.2.1 dX5_kindFor_18 (by decide) (fun c_9 => absurd c_9 (by decide)) (fun _ => ?_)
      refine lv_aload_n C.1.1 C.1.2.1 dX5_kindFor_21 rfl (lv_at hl 0 rfl) ?_
      refine lv_ldc (v := (-1000001)) C.1.1 C.1.2.1 C.1.2.2.2.1 (C.1.2.2.2.2 _ (List.mem_of_getElem? (i := 2) rfl)) dX5_kindFor_22 ?_
      refine a_F hS (run_V C hP hS hl.1 0 5 (Nat.lt_of_lt_of_le (by decide) hn) rfl (by decide) rfl [.int (-1000001)] (kX5_finding l g n v 0 (by decide) (-1000001) rfl) gX5_kindFor_X5_finding rfl hdX5_finding rfl ⟨rfl, rfl⟩ ⟨Nat.le_of_ble_eq_true rfl, Nat.le_of_ble_eq_true rfl⟩ rfl [] rfl (Nat.le_of_ble_eq_true rfl) dX5_kindFor_24 ⟨Nat.zero_le _, Nat.zero_le _⟩) (fun H locs hP hS => ?_)
      have e54_10 : (fnC v 0).1 54 = v.1 54 := (upw_ne _ _ (by decide))
      exact t_P C rfl hP hS (ps_fd (f := fun u => kindForM u (nI jx) y) hR (sam_rfl v) (by decide) (by simp only [kindForM, nM_of e54_10 hM, e54_10, cif_pos kb_1, cif_neg b_3, tn_nI (show jx < 2 ^ 31 by omega)]) rfl) (rsc_trans (rsc_rfl v) (rsc_w _ _ (by decide))) dX5_kindFor_27
  · skip
    refine lv_if_eq (tgt := 21) C.1.1 C.1.2.1 dX5_kindFor_8 (by decide) (fun _ => ?_) (fun c_11 => absurd c_11 (by decide))
    refine lv_aload_n C.1.1 C.1.2.1 dX5_kindFor_21 rfl (lv_at hl 0 rfl) ?_
    refine lv_ldc (v := (-1000001)) C.1.1 C.1.2.1 C.1.2.2.2.1 (C.1.2.2.2.2 _ (List.mem_of_getElem? (i := 2) rfl)) dX5_kindFor_22 ?_
    refine a_F hS (run_V C hP hS hl.1 0 5 (Nat.lt_of_lt_of_le (by decide) hn) rfl (by decide) rfl [.int (-1000001)] (kX5_finding l g n v 0 (by decide) (-1000001) rfl) gX5_kindFor_X5_finding rfl hdX5_finding rfl ⟨rfl, rfl⟩ ⟨Nat.le_of_ble_eq_true rfl, Nat.le_of_ble_eq_true rfl⟩ rfl [] rfl (Nat.le_of_ble_eq_true rfl) dX5_kindFor_24 ⟨Nat.zero_le _, Nat.zero_le _⟩) (fun H locs hP hS => ?_)
    have e54_12 : (fnC v 0).1 54 = v.1 54 := (upw_ne _ _ (by decide))
    exact t_P C rfl hP hS (ps_fd (f := fun u => kindForM u x y) hR (sam_rfl v) (by decide) (by simp only [kindForM, nM_of e54_12 hM, e54_12, cif_neg b_1]) rfl) (rsc_trans (rsc_rfl v) (rsc_w _ _ (by decide))) dX5_kindFor_27

abbrev rmX5_loudFor : Room := { frames := 7, cells := 0, slots := 0, locals := 155 }
set_option maxHeartbeats 4000000 in
set_option maxRecDepth 100000 in
theorem kX5_loudFor (l : Launch) (g : GG) (n : Nat) (v : SV) (x y : Int32) (N : Nat) (hR : Rl v N) : Met l yX5_loudFor wsX5_loudFor rmX5_loudFor (PW g n v [.ref (gA g 0), .int x, .int y]) (QP g n v (fun u => loudForM u x y)) 0 0 (wA g n) := by
  refine Met.begin RX5 rfl (by decide) rfl (Nat.le_of_ble_eq_true rfl) ?_
  intro p e s m args below meth c ls ha C hP hS hl
  have hn : 64 ≤ n := C.2.1.1.2.1
  have hi0 : ∀ w ∈ u_ws RX0 TX0 6, w ∈ wsX5_loudFor := by decide +kernel
  have hi2 : ∀ w ∈ u_ws RX2 TX2 11, w ∈ wsX5_loudFor := by decide +kernel
  have hi5 : ∀ w ∈ u_ws RX5 TX5 8, w ∈ wsX5_loudFor := by decide +kernel
  have hl : lv_has ls 4 [(0, .ref (gA g 0)), (1, .int x), (2, .int y)] := hl
  have hC := hR.1.1
  have hA := hR.1.2
  have h8 := hC.1
  have hD : okC (v.1 54) N := okC_agr (agr_symm hA) hC
  have hM := okC_M hD
  refine lv_iload_n C.1.1 C.1.2.1 dX5_loudFor_0 rfl (lv_at hl 1 rfl) ?_
  refine lv_iconst (v := 0) C.1.1 C.1.2.1 dX5_loudFor_1 rfl ?_
  refine lv_ldc (v := 99999) C.1.1 C.1.2.1 C.1.2.2.2.1 (C.1.2.2.2.2 _ (List.mem_of_getElem? (i := 1) rfl)) dX5_loudFor_2 ?_
  refine a_B hS (run_S C hP hS hl.1 [.int x, .int 0, .int 99999] (kX5_isWithin l g n v x 0 99999) gX5_loudFor_X5_isWithin hdX5_isWithin rfl ⟨rfl, rfl⟩ ⟨Nat.le_of_ble_eq_true rfl, Nat.le_of_ble_eq_true rfl⟩ rfl [] rfl (Nat.le_of_ble_eq_true rfl) dX5_loudFor_4 ⟨Nat.zero_le _, Nat.zero_le _⟩) (fun b_1 H locs hP hS => ?_) (fun b_1 H locs hP hS => ?_)
  · skip
    have b_1 := (in_iffC 100000 (by decide) (by decide)).mp b_1
    have kb_1 := b_1
    obtain ⟨jx, hjx, rfl⟩ := b_1
    refine lv_if_eq (tgt := 20) C.1.1 C.1.2.1 dX5_loudFor_7 (by decide) (fun c_2 => absurd c_2 (by decide)) (fun _ => ?_)
    refine lv_iload_n C.1.1 C.1.2.1 dX5_loudFor_10 rfl (lv_at hl 2 rfl) ?_
    refine lv_iconst (v := 0) C.1.1 C.1.2.1 dX5_loudFor_11 rfl ?_
    refine lv_bipush (v := 60) C.1.1 C.1.2.1 dX5_loudFor_12 rfl ?_
    refine a_B hS (run_S C hP hS hl.1 [.int y, .int 0, .int 60] (kX5_isWithin l g n v y 0 60) gX5_loudFor_X5_isWithin hdX5_isWithin rfl ⟨rfl, rfl⟩ ⟨Nat.le_of_ble_eq_true rfl, Nat.le_of_ble_eq_true rfl⟩ rfl [] rfl (Nat.le_of_ble_eq_true rfl) dX5_loudFor_14 ⟨Nat.zero_le _, Nat.zero_le _⟩) (fun b_3 H locs hP hS => ?_) (fun b_3 H locs hP hS => ?_)
    · skip
      have b_3 := (in_iffC 61 (by decide) (by decide)).mp b_3
      have kb_3 := b_3
      obtain ⟨jy, hjy, rfl⟩ := b_3
      refine lv_if_ne (tgt := 27) C.1.1 C.1.2.1 dX5_loudFor_17 (by decide) (fun _ => ?_) (fun c_4 => absurd c_4 (by decide))
      refine lv_iconst (v := 0) C.1.1 C.1.2.1 dX5_loudFor_27 rfl ?_
      refine lv_istore_n (lv' := [(3, .int 0), (0, .ref (gA g 0)), (1, .int (nI jx)), (2, .int (nI jy))]) C.1.1 C.1.2.1 dX5_loudFor_28 rfl hl (by decide) rfl (fun ls hl => ?_)
      have lp_29 : ∀ (k_29 i : Nat), i ≤ 10 → 10 + 1 ≤ i + k_29 → ∀ (H : Heap) (locs : List Loc) (ls : Array Slot) (u : SV), (sam v u) → (∀ t, t < i → ¬ nI jx ≤ daysM (upd (v.1 54) 5 (nI t)) jy 6) → va_P g.1 vwCl (wl g n u) H → va_S (wA g n) s.heap H locs → lv_has ls 4 [(0, .ref (gA g 0)), (1, .int (nI jx)), (2, .int (nI jy)), (3, .int (nI i))] → W p l e rmX5_loudFor s m args below meth c H locs 0 0 (MQ below (QP g n v (fun u => loudForM u (nI jx) (nI jy))) args s 0 0 (wA g n)) (F0 m 29 ls []) := by
        clear hP hS hl
        intro k_29
        induction k_29 with
        | zero => exact fun i h1 h2 => absurd h2 (by omega)
        | succ k_29 ih_29 =>
          intro i hi_29 hk_29 H locs ls u hu hno hP hS hl
          refine lv_iload_n C.1.1 C.1.2.1 dX5_loudFor_29 rfl (lv_at hl 3 rfl) ?_
          refine lv_bipush (v := 9) C.1.1 C.1.2.1 dX5_loudFor_30 rfl ?_
          refine lv_icmp_gt (tgt := 81) C.1.1 C.1.2.1 dX5_loudFor_32 (by decide) (fun c_5 => ?_) (fun c_5 => ?_)
          · rw [show (9 < nI i) = (9 < i) from propext (nI_ltI (a := 9) (b := i) (by omega) (by omega))] at c_5
            refine lv_aload_n C.1.1 C.1.2.1 dX5_loudFor_81 rfl (lv_at hl 0 rfl) ?_
            refine lv_ldc (v := (-1000004)) C.1.1 C.1.2.1 C.1.2.2.2.1 (C.1.2.2.2.2 _ (List.mem_of_getElem? (i := 7) rfl)) dX5_loudFor_82 ?_
            refine a_F hS (run_V C hP hS hl.1 0 5 (Nat.lt_of_lt_of_le (by decide) hn) rfl (by decide) rfl [.int (-1000004)] (kX5_finding l g n u 3 (by decide) (-1000004) rfl) gX5_loudFor_X5_finding rfl hdX5_finding rfl ⟨rfl, rfl⟩ ⟨Nat.le_of_ble_eq_true rfl, Nat.le_of_ble_eq_true rfl⟩ rfl [] rfl (Nat.le_of_ble_eq_true rfl) dX5_loudFor_84 ⟨Nat.zero_le _, Nat.zero_le _⟩) (fun H locs hP hS => ?_)
            have e54_6 : (fnC u 3).1 54 = v.1 54 := ((upw_ne _ _ (by decide)).trans (sam54 hu))
            exact t_P C rfl hP hS (ps_fdA (f := fun u => loudForM u (nI jx) (nI jy)) hR hu (by decide) (by simp only [loudForM, nM_of e54_6 hM, e54_6, cif_pos kb_1, cif_pos kb_3, tn_nI (show jx < 2 ^ 31 by omega), tn_nI (show jy < 2 ^ 31 by omega), lk_no 10 0 (P := (fun t => nI jx ≤ daysM (upd (v.1 54) 5 (nI t)) jy 6)) (fun t _ ht => hno t (by omega)), if_neg (show ¬ 0 + 10 < 10 by decide)]) rfl) (rsc_trans (hu.2) (rsc_w _ _ (by decide))) dX5_loudFor_87
          · rw [show (9 < nI i) = (9 < i) from propext (nI_ltI (a := 9) (b := i) (by omega) (by omega))] at c_5
            refine lv_aload_n C.1.1 C.1.2.1 dX5_loudFor_35 rfl (lv_at hl 0 rfl) ?_
            refine r_get C hP 0 5 (Nat.lt_of_lt_of_le (by decide) hn) rfl (by decide) rfl hi5 1 (by decide) (List.mem_of_getElem? (i := 3) rfl) rfl (val := .ref (gA g 14)) rfl dX5_loudFor_36 ?_
            refine lv_aload_n C.1.1 C.1.2.1 dX5_loudFor_39 rfl (lv_at hl 0 rfl) ?_
            refine r_get C hP 0 5 (Nat.lt_of_lt_of_le (by decide) hn) rfl (by decide) rfl hi5 0 (by decide) (List.mem_of_getElem? (i := 4) rfl) rfl (val := .ref (gA g 1)) rfl dX5_loudFor_40 ?_
            refine a_G hS (run_V C hP hS hl.1 14 2 (Nat.lt_of_lt_of_le (by decide) hn) rfl (by decide) rfl [.ref (gA g 1)] (kX2_become l g n u u 14 (stR u 14) 1 N (Or.inr (Or.inl rfl)) (Or.inl rfl) (by decide) (st_self _ 14).symm (by rw [scr_1 hu.1]; exact hC)) gX5_loudFor_X2_become rfl hdX2_become rfl ⟨rfl, rfl⟩ ⟨Nat.le_of_ble_eq_true rfl, Nat.le_of_ble_eq_true rfl⟩ rfl [] rfl (Nat.le_of_ble_eq_true rfl) dX5_loudFor_43 ⟨Nat.zero_le _, Nat.zero_le _⟩) (fun H locs hP hS => ?_)
            obtain ⟨X_0, hX_0⟩ : ∃ zz, zz = becM (stR u 14) (stR u 1) N := ⟨_, rfl⟩
            rw [← hX_0] at hP
            have aX_0 : agr N (stR v 1) X_0 := by rw [hX_0, scr_1 hu.1]; exact bec_agr _ _ _
            have cX_0 : okC X_0 N := okC_agr aX_0 hC
            refine lv_aload_n C.1.1 C.1.2.1 dX5_loudFor_46 rfl (lv_at hl 0 rfl) ?_
            refine r_get C hP 0 5 (Nat.lt_of_lt_of_le (by decide) hn) rfl (by decide) rfl hi5 1 (by decide) (List.mem_of_getElem? (i := 3) rfl) rfl (val := .ref (gA g 14)) rfl dX5_loudFor_47 ?_
            refine lv_iload_n C.1.1 C.1.2.1 dX5_loudFor_50 rfl (lv_at hl 3 rfl) ?_
            refine r_put C hP hS 14 2 (Nat.lt_of_lt_of_le (by decide) hn) rfl (by decide) rfl hi2 tyX2 tyX2_ok nmX2 2 (by decide) (List.mem_of_getElem? (i := 5) rfl) rfl rfl rfl rfl rfl (Nat.le_of_ble_eq_true rfl) dX5_loudFor_51 (fun H locs hP hS => ?_)
            rw [show up (stW u 14 X_0) 14 2 (nI i) = stW u 14 (upd X_0 5 (nI i)) from st_up (i := 5) (sl_k rfl) (by decide)] at hP
            refine lv_aload_n C.1.1 C.1.2.1 dX5_loudFor_54 rfl (lv_at hl 0 rfl) ?_
            refine r_get C hP 0 5 (Nat.lt_of_lt_of_le (by decide) hn) rfl (by decide) rfl hi5 1 (by decide) (List.mem_of_getElem? (i := 3) rfl) rfl (val := .ref (gA g 14)) rfl dX5_loudFor_55 ?_
            refine lv_iload_n C.1.1 C.1.2.1 dX5_loudFor_58 rfl (lv_at hl 2 rfl) ?_
            refine a_G hS (run_V C hP hS hl.1 14 2 (Nat.lt_of_lt_of_le (by decide) hn) rfl (by decide) rfl [.int (nI jy)] (kX2_passDays l g n (stW u 14 (upd X_0 5 (nI i))) jy (by omega) u 14 (upd X_0 5 (nI i)) N (Or.inr (Or.inl rfl)) rfl (okC_upd cX_0 (by decide) (Or.inr ⟨_, (by show _ < (10 : Nat); omega), rfl⟩))) gX5_loudFor_X2_passDays rfl hdX2_passDays rfl ⟨rfl, rfl⟩ ⟨Nat.le_of_ble_eq_true rfl, Nat.le_of_ble_eq_true rfl⟩ rfl [] rfl (Nat.le_of_ble_eq_true rfl) dX5_loudFor_59 ⟨Nat.zero_le _, Nat.zero_le _⟩) (fun H locs hP hS => ?_)
            refine lv_aload_n C.1.1 C.1.2.1 dX5_loudFor_62 rfl (lv_at hl 0 rfl) ?_
            refine r_get C hP 0 5 (Nat.lt_of_lt_of_le (by decide) hn) rfl (by decide) rfl hi5 1 (by decide) (List.mem_of_getElem? (i := 3) rfl) rfl (val := .ref (gA g 14)) rfl dX5_loudFor_63 ?_
            refine r_get C hP 14 2 (Nat.lt_of_lt_of_le (by decide) hn) rfl (by decide) rfl hi2 5 (by decide) (List.mem_of_getElem? (i := 6) rfl) rfl (val := .int ((stW u 14 (daysM (upd X_0 5 (nI i)) jy)).1 14 5)) rfl dX5_loudFor_66 ?_
            refine lv_topE ((daysM (upd (v.1 54) 5 (nI i)) jy) 6) ((st_at (i := 6) (sl_k rfl) (by decide)).trans (agr_lo (agr_days (agr_upd (agr_symm (agr_trans hA aX_0)) rfl) (okC_M (okC_upd cX_0 (by decide) (Or.inr ⟨_, (by show _ < (10 : Nat); omega), rfl⟩))) jy) (by decide))) ?_
            refine lv_iload_n C.1.1 C.1.2.1 dX5_loudFor_69 rfl (lv_at hl 1 rfl) ?_
            refine lv_icmp_lt (tgt := 75) C.1.1 C.1.2.1 dX5_loudFor_70 (by decide) (fun c_8 => ?_) (fun c_8 => ?_)
            · skip
              refine lv_iinc (v := nI (i + 1)) (lv' := [(3, .int (nI (i + 1))), (0, .ref (gA g 0)), (1, .int (nI jx)), (2, .int (nI jy))]) C.1.1 C.1.2.1 dX5_loudFor_75 hl (k := 3) rfl (nI_1 i) (by decide) rfl (fun ls hl => ?_)
              refine lv_goto (tgt := 29) C.1.1 C.1.2.1 dX5_loudFor_78 (by decide) ?_
              exact ih_29 (i + 1) (by omega) (by omega) _ _ _ (stW u 14 (daysM (upd X_0 5 (nI i)) jy)) (sam_trans hu (sam_14 _ _)) (fun t ht => if h9 : t < i then hno t h9 else by rw [show t = i by omega]; exact fa_lt_nle c_8) hP hS (lv_sub hl [1, 2, 3, 0] rfl)
            · skip
              refine lv_iload_n C.1.1 C.1.2.1 dX5_loudFor_73 rfl (lv_at hl 3 rfl) ?_
              have el : lk (fun t => nI jx ≤ daysM (upd (v.1 54) 5 (nI t)) jy 6) 10 0 = i := lk_yes 10 0 i (Nat.zero_le _) (by omega) (fun t _ ht => hno t ht) (fa_nlt c_8)
              have e54_9 : (stW u 14 (daysM (upd X_0 5 (nI i)) jy)).1 54 = v.1 54 := ((st_far (by decide)).trans (sam54 hu))
              exact t_P C rfl hP hS (ps_eq (u := stW u 14 (daysM (upd X_0 5 (nI i)) jy)) hR (show loudForM (stW u 14 (daysM (upd X_0 5 (nI i)) jy)) (nI jx) (nI jy) = (nI i, asideM (stW u 14 (daysM (upd X_0 5 (nI i)) jy))) from by simp only [loudForM, nM_of e54_9 hM, e54_9, cif_pos kb_1, cif_pos kb_3, tn_nI (show jx < 2 ^ 31 by omega), tn_nI (show jy < 2 ^ 31 by omega), el, if_pos (show i < 10 by omega)]) rfl (sam_trans (sam_trans hu (sam_14 _ _)) (sam_aside _))) (rsc_trans (hu.2) (rsc_st _ _ (by decide))) dX5_loudFor_74
      exact lp_29 (10 + 1) 0 (Nat.zero_le _) (by omega) _ _ _ v (sam_rfl v) (fun t h => absurd h (Nat.not_lt_zero t)) hP hS (lv_sub hl [1, 2, 3, 0] rfl)
    · skip
      have b_3 := fun h => b_3 ((in_iffC 61 (by decide) (by decide)).mpr h)
      refine lv_if_ne (tgt := 27) C.1.1 C.1.2.1 dX5_loudFor_17 (by decide) (fun c_10 => absurd c_10 (by decide)) (fun _ => ?_)
      refine lv_aload_n C.1.1 C.1.2.1 dX5_loudFor_20 rfl (lv_at hl 0 rfl) ?_
      refine lv_ldc (v := (-1000001)) C.1.1 C.1.2.1 C.1.2.2.2.1 (C.1.2.2.2.2 _ (List.mem_of_getElem? (i := 2) rfl)) dX5_loudFor_21 ?_
      refine a_F hS (run_V C hP hS hl.1 0 5 (Nat.lt_of_lt_of_le (by decide) hn) rfl (by decide) rfl [.int (-1000001)] (kX5_finding l g n v 0 (by decide) (-1000001) rfl) gX5_loudFor_X5_finding rfl hdX5_finding rfl ⟨rfl, rfl⟩ ⟨Nat.le_of_ble_eq_true rfl, Nat.le_of_ble_eq_true rfl⟩ rfl [] rfl (Nat.le_of_ble_eq_true rfl) dX5_loudFor_23 ⟨Nat.zero_le _, Nat.zero_le _⟩) (fun H locs hP hS => ?_)
      have e54_11 : (fnC v 0).1 54 = v.1 54 := (upw_ne _ _ (by decide))
      exact t_P C rfl hP hS (ps_fd (f := fun u => loudForM u (nI jx) y) hR (sam_rfl v) (by decide) (by simp only [loudForM, nM_of e54_11 hM, e54_11, cif_pos kb_1, cif_neg b_3, tn_nI (show jx < 2 ^ 31 by omega)]) rfl) (rsc_trans (rsc_rfl v) (rsc_w _ _ (by decide))) dX5_loudFor_26
  · skip
    have b_1 := fun h => b_1 ((in_iffC 100000 (by decide) (by decide)).mpr h)
    refine lv_if_eq (tgt := 20) C.1.1 C.1.2.1 dX5_loudFor_7 (by decide) (fun _ => ?_) (fun c_12 => absurd c_12 (by decide))
    refine lv_aload_n C.1.1 C.1.2.1 dX5_loudFor_20 rfl (lv_at hl 0 rfl) ?_
    refine lv_ldc (v := (-1000001)) C.1.1 C.1.2.1 C.1.2.2.2.1 (C.1.2.2.2.2 _ (List.mem_of_getElem? (i := 2) rfl)) dX5_loudFor_21 ?_
    refine a_F hS (run_V C hP hS hl.1 0 5 (Nat.lt_of_lt_of_le (by decide) hn) rfl (by decide) rfl [.int (-1000001)] (kX5_finding l g n v 0 (by decide) (-1000001) rfl) gX5_loudFor_X5_finding rfl hdX5_finding rfl ⟨rfl, rfl⟩ ⟨Nat.le_of_ble_eq_true rfl, Nat.le_of_ble_eq_true rfl⟩ rfl [] rfl (Nat.le_of_ble_eq_true rfl) dX5_loudFor_23 ⟨Nat.zero_le _, Nat.zero_le _⟩) (fun H locs hP hS => ?_)
    have e54_13 : (fnC v 0).1 54 = v.1 54 := (upw_ne _ _ (by decide))
    exact t_P C rfl hP hS (ps_fd (f := fun u => loudForM u x y) hR (sam_rfl v) (by decide) (by simp only [loudForM, nM_of e54_13 hM, e54_13, cif_neg b_1]) rfl) (rsc_trans (rsc_rfl v) (rsc_w _ _ (by decide))) dX5_loudFor_26

