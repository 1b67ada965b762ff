abbrev rmX2_callOut : Room := { frames := 4, cells := 0, slots := 0, locals := 90 }
set_option maxHeartbeats 4000000 in
set_option maxRecDepth 100000 in
theorem kX2_callOut (l : Launch) (g : GG) (n : Nat) (v : SV) (q : Nat) (hq : q < 12) (w : SV) (k : Nat) (d : Nat → Int32) (N : Nat) (hk : isSt k) (hv : v = stW w k d) (hC : okC d N) : Met l yX2_callOut wsX2_callOut rmX2_callOut (PW g n v [.ref (gA g k), .int (nI q)]) (QG g n (stW w k (lpM d q N))) 0 0 (wA g n) := by
  refine Met.begin RX2 rfl (by decide) rfl (Nat.le_of_ble_eq_true rfl) ?_
  intro p e s m args below meth c ls ha C hP hS hl
  have hn : 64 ≤ n := C.2.1.1.2.1
  have hi0 : ∀ w ∈ u_ws RX0 TX0 6, w ∈ wsX2_callOut := by decide +kernel
  have hi2 : ∀ w ∈ u_ws RX2 TX2 11, w ∈ wsX2_callOut := by decide +kernel
  have hl : lv_has ls 4 [(0, .ref (gA g k)), (1, .int (nI q))] := hl
  rw [hv] at hP
  have hM := okC_M hC
  have h8 := hC.1
  have hk64 : k + 13 ≤ 64 := by rcases hk with h | h | h <;> omega
  obtain ⟨kd0, kd1, kd2, kd3, kd4, ln1, ln2, ln4⟩ := kd_st hk
  refine lv_iconst (v := 0) C.1.1 C.1.2.1 dX2_callOut_0 rfl ?_
  refine lv_istore_n (lv' := [(2, .int 0), (0, .ref (gA g k)), (1, .int (nI q))]) C.1.1 C.1.2.1 dX2_callOut_1 rfl hl (by decide) rfl (fun ls hl => ?_)
  have lp_2 : ∀ (k_2 i : Nat), i ≤ N → N + 1 ≤ i + k_2 → ∀ (H : Heap) (locs : List Loc) (ls : Array Slot), va_P g.1 vwCl (wl g n (stW w k (lpM d q i))) H → va_S (wA g n) s.heap H locs → lv_has ls 4 [(0, .ref (gA g k)), (1, .int (nI q)), (2, .int (nI i))] → W p l e rmX2_callOut s m args below meth c H locs 0 0 (MQ below (QG g n (stW w k (lpM d q N))) args s 0 0 (wA g n)) (F0 m 2 ls []) := by
    clear hP hS hl
    intro k_2
    induction k_2 with
    | zero => exact fun i h1 h2 => absurd h2 (by omega)
    | succ k_2 ih_2 =>
      intro i hi_2 hk_2 H locs ls hP hS hl
      have hCi := okC_lp hC hq i hi_2
      refine lv_iload_n C.1.1 C.1.2.1 dX2_callOut_2 rfl (lv_at hl 2 rfl) ?_
      refine lv_aload_n C.1.1 C.1.2.1 dX2_callOut_3 rfl (lv_at hl 0 rfl) ?_
      refine r_get C hP k 2 (by omega) (by assumption) (by decide) rfl hi2 8 (by decide) (List.mem_of_getElem? (i := 1) rfl) rfl (val := .int ((stW w k (lpM d q i)).1 k 8)) rfl dX2_callOut_4 ?_
      refine lv_topE (nI N) ((st_at (i := 0) (sl_k rfl) (by decide)).trans ((lpM_lo (by decide) i (by omega)).trans hC.2.1)) ?_
      refine lv_icmp_ge (tgt := 86) C.1.1 C.1.2.1 dX2_callOut_7 (by decide) (fun c_1 => ?_) (fun c_1 => ?_)
      · rw [show (nI N ≤ nI i) = (N ≤ i) from propext (nI_leI (a := N) (b := i) (by omega) (by omega))] at c_1
        have hiN : i = N := by omega
        exact t_G C rfl hP hS (by rw [hiN]) dX2_callOut_86
      · rw [show (nI N ≤ nI i) = (N ≤ i) from propext (nI_leI (a := N) (b := i) (by omega) (by omega))] at c_1
        have hiN : i < N := by omega
        refine lv_aload_n C.1.1 C.1.2.1 dX2_callOut_10 rfl (lv_at hl 0 rfl) ?_
        refine r_get C hP k 2 (by omega) (by assumption) (by decide) rfl hi2 9 (by decide) (List.mem_of_getElem? (i := 2) rfl) rfl (val := .ref (gA g (k + 3))) rfl dX2_callOut_11 ?_
        refine lv_iload_n C.1.1 C.1.2.1 dX2_callOut_14 rfl (lv_at hl 2 rfl) ?_
        refine r_aald C hP (k + 3) (by omega) (by assumption) i rfl (by omega) dX2_callOut_15 ?_
        refine lv_astore_n (lv' := [(3, .ref (gA g (k + 5 + i))), (0, .ref (gA g k)), (1, .int (nI q)), (2, .int (nI i))]) C.1.1 C.1.2.1 dX2_callOut_16 rfl hl (by decide) rfl (fun ls hl => ?_)
        refine lv_aload_n C.1.1 C.1.2.1 dX2_callOut_17 rfl (lv_at hl 0 rfl) ?_
        refine lv_iload_n C.1.1 C.1.2.1 dX2_callOut_18 rfl (lv_at hl 2 rfl) ?_
        refine lv_aload_n C.1.1 C.1.2.1 dX2_callOut_19 rfl (lv_at hl 1 rfl) ?_
        refine r_get C hP k 2 (by omega) (by assumption) (by decide) rfl hi2 0 (by decide) (List.mem_of_getElem? (i := 3) rfl) rfl (val := .int ((stW w k (lpM d q i)).1 k 0)) rfl dX2_callOut_20 ?_
        refine lv_topE ((lpM d q i) 3) (st_at (i := 3) (sl_k rfl) (by decide)) ?_
        refine lv_aload_n C.1.1 C.1.2.1 dX2_callOut_23 rfl (lv_at hl 1 rfl) ?_
        refine r_get C hP k 2 (by omega) (by assumption) (by decide) rfl hi2 2 (by decide) (List.mem_of_getElem? (i := 4) rfl) rfl (val := .int ((stW w k (lpM d q i)).1 k 2)) rfl dX2_callOut_24 ?_
        refine lv_topE ((lpM d q i) 5) (st_at (i := 5) (sl_k rfl) (by decide)) ?_
        refine a_B hS (run_V C hP hS hl.1 (k + 5 + i) 0 (by omega) (kd_stR k hk i (by omega)) (by decide) rfl [.int (nI q), .int ((lpM d q i) 3), .int ((lpM d q i) 5)] (kX0_comesFor l g n (stW w k (lpM d q i)) (k + 5 + i) (by omega) (kd_stR k hk i (by omega)) (nI q) ((lpM d q i) 3) ((lpM d q i) 5)) gX2_callOut_X0_comesFor rfl hdX0_comesFor rfl ⟨rfl, rfl⟩ ⟨Nat.le_of_ble_eq_true rfl, Nat.le_of_ble_eq_true rfl⟩ rfl [] rfl (Nat.le_of_ble_eq_true rfl) dX2_callOut_27 ⟨Nat.zero_le _, Nat.zero_le _⟩) (fun b_2 H locs hP hS => ?_) (fun b_2 H locs hP hS => ?_)
        · skip
          have hcm := (come_iff (by omega) (okC_R hCi hiN)).mp b_2
          refine lv_if_eq (tgt := 60) C.1.1 C.1.2.1 dX2_callOut_30 (by decide) (fun c_3 => absurd c_3 (by decide)) (fun _ => ?_)
          refine lv_aload_n C.1.1 C.1.2.1 dX2_callOut_33 rfl (lv_at hl 0 rfl) ?_
          refine a_G hS (run_V C hP hS hl.1 (k + 5 + i) 0 (by omega) (kd_stR k hk i (by omega)) (by decide) rfl [] (kX0_standOnTheStep l g n (stW w k (lpM d q i)) (k + 5 + i) (by omega) (kd_stR k hk i (by omega)) (by obtain ⟨q, h1, h2⟩ := okC_R hCi hiN 2 (by decide); exact ⟨q, h1, (st_six (by omega) 2 (by decide)).trans h2⟩)) gX2_callOut_X0_standOnTheStep rfl hdX0_standOnTheStep rfl ⟨rfl, rfl⟩ ⟨Nat.le_of_ble_eq_true rfl, Nat.le_of_ble_eq_true rfl⟩ rfl [] rfl (Nat.le_of_ble_eq_true rfl) dX2_callOut_34 ⟨Nat.zero_le _, Nat.zero_le _⟩) (fun H locs hP hS => ?_)
          obtain ⟨d2, hd2⟩ : ∃ zz, zz = upd (upd (lpM d q i) (25 + 8 * 4 + i) (heldF (rowM (lpM d q i) i 4 + 1) 0 9999)) (25 + 8 * 3 + i) (heldF (rowM (lpM d q i) i 3 - loseF (rowM (lpM d q i) i)) 0 99) := ⟨_, rfl⟩
          rw [show upw (stW w k (lpM d q i)) (k + 5 + i) (standR ((stW w k (lpM d q i)).1 (k + 5 + i))) = stW w k d2 from by rw [hd2]; exact st_stand (by omega) (okC_R hCi hiN)] at hP
          refine lv_aload_n C.1.1 C.1.2.1 dX2_callOut_37 rfl (lv_at hl 1 rfl) ?_
          refine r_get C hP k 2 (by omega) (by assumption) (by decide) rfl hi2 4 (by decide) (List.mem_of_getElem? (i := 5) rfl) rfl (val := .ref (gA g (k + 2))) rfl dX2_callOut_38 ?_
          refine lv_iload_n C.1.1 C.1.2.1 dX2_callOut_41 rfl (lv_at hl 2 rfl) ?_
          refine lv_sipush (v := 999) C.1.1 C.1.2.1 dX2_callOut_42 rfl ?_
          refine lv_aload_n C.1.1 C.1.2.1 dX2_callOut_45 rfl (lv_at hl 1 rfl) ?_
          refine r_get C hP k 2 (by omega) (by assumption) (by decide) rfl hi2 4 (by decide) (List.mem_of_getElem? (i := 5) rfl) rfl (val := .ref (gA g (k + 2))) rfl dX2_callOut_46 ?_
          refine lv_iload_n C.1.1 C.1.2.1 dX2_callOut_49 rfl (lv_at hl 2 rfl) ?_
          refine r_iald C hP (k + 2) (by omega) (by assumption) q rfl (N := 12) ln2 (by decide) (by omega) dX2_callOut_50 ?_
          refine lv_topE (lpM d q i (13 + q)) ((st_at (i := 13 + q) (sl_2 (by omega)) (by omega)).trans (by rw [hd2, pk_un (by omega), pk_un (by omega)])) ?_
          refine lv_iconst (v := 1) C.1.1 C.1.2.1 dX2_callOut_51 rfl ?_
          refine lv_iadd C.1.1 C.1.2.1 dX2_callOut_52 ?_
          refine va_mmin C.1.1 C.1.2.1 (C.1.2.2.1.trans hl.1.symm) C.1.2.2.2.1 (C.1.2.2.2.2 _ (List.mem_of_getElem? (i := 6) rfl)) (C.1.2.2.2.2 _ (List.mem_of_getElem? (i := 7) rfl)) (C.1.2.2.2.2 _ (List.mem_of_getElem? (i := 8) rfl)) (C.1.2.2.2.2 _ (List.mem_of_getElem? (i := 9) rfl)) (Nat.le_of_ble_eq_true rfl) (Nat.le_of_ble_eq_true rfl) (Nat.le_refl _) (Nat.le_refl _) dX2_callOut_53 ?_
          refine r_iast C hP hS (k + 2) (by omega) (by assumption) q rfl (N := 12) ln2 (by decide) (by omega) dX2_callOut_56 (fun H locs hP hS => ?_)
          rw [show up (stW w k d2) (k + 2) q (if (lpM d q i (13 + q)) + 1 < 999 then (lpM d q i (13 + q)) + 1 else 999) = stW w k (upd d2 (13 + q) (if (lpM d q i (13 + q)) + 1 < 999 then (lpM d q i (13 + q)) + 1 else 999)) from st_up (sl_2 (by omega)) (by omega)] at hP
          refine lv_goto (tgt := 80) C.1.1 C.1.2.1 dX2_callOut_57 (by decide) ?_
          refine lv_iinc (v := nI (i + 1)) (lv' := [(2, .int (nI (i + 1))), (3, .ref (gA g (k + 5 + i))), (0, .ref (gA g k)), (1, .int (nI q))]) C.1.1 C.1.2.1 dX2_callOut_80 hl (k := 3) rfl (nI_1 i) (by decide) rfl (fun ls hl => ?_)
          refine lv_goto (tgt := 2) C.1.1 C.1.2.1 dX2_callOut_83 (by decide) ?_
          exact ih_2 (i + 1) (by omega) (by omega) _ _ _ (by obtain ⟨mq, hmq, emq⟩ := okC_reg hCi hq; rw [hd2, step_come hcm hq emq hmq] at hP; exact hP) hS (lv_sub hl [2, 3, 0] rfl)
        · skip
          have hcm := fun h => b_2 ((come_iff (by omega) (okC_R hCi hiN)).mpr h)
          refine lv_if_eq (tgt := 60) C.1.1 C.1.2.1 dX2_callOut_30 (by decide) (fun _ => ?_) (fun c_4 => absurd c_4 (by decide))
          refine lv_aload_n C.1.1 C.1.2.1 dX2_callOut_60 rfl (lv_at hl 0 rfl) ?_
          refine r_get C hP (k + 5 + i) 0 (by omega) (kd_stR k hk i (by omega)) (by decide) rfl hi0 5 (by decide) (List.mem_of_getElem? (i := 10) rfl) rfl (val := .int ((stW w k (lpM d q i)).1 (k + 5 + i) 5)) rfl dX2_callOut_61 ?_
          refine lv_topE ((lpM d q i) (25 + 8 * 5 + i)) (st_at (i := 25 + 8 * 5 + i) (sl_5 (r := i) (w := 5) (by omega) (by decide)) (by omega)) ?_
          refine lv_if_ne (tgt := 80) C.1.1 C.1.2.1 dX2_callOut_64 (by decide) (fun c_5 => ?_) (fun c_5 => ?_)
          · skip
            have hz5 : ¬ rowM (lpM d q i) i 5 = 0 := c_5
            refine lv_iinc (v := nI (i + 1)) (lv' := [(2, .int (nI (i + 1))), (3, .ref (gA g (k + 5 + i))), (0, .ref (gA g k)), (1, .int (nI q))]) C.1.1 C.1.2.1 dX2_callOut_80 hl (k := 3) rfl (nI_1 i) (by decide) rfl (fun ls hl => ?_)
            refine lv_goto (tgt := 2) C.1.1 C.1.2.1 dX2_callOut_83 (by decide) ?_
            exact ih_2 (i + 1) (by omega) (by omega) _ _ _ (by rw [show lpM d q (i + 1) = lpM d q i from (step_away (Classical.byContradiction (fun h => hz5 ((away_01 (okC_R hCi hiN)).mpr h)))).symm]; exact hP) hS (lv_sub hl [2, 3, 0] rfl)
          · skip
            have hz5 : rowM (lpM d q i) i 5 = 0 := c_5
            refine lv_aload_n C.1.1 C.1.2.1 dX2_callOut_67 rfl (lv_at hl 0 rfl) ?_
            refine lv_iload_n C.1.1 C.1.2.1 dX2_callOut_68 rfl (lv_at hl 2 rfl) ?_
            refine lv_aload_n C.1.1 C.1.2.1 dX2_callOut_69 rfl (lv_at hl 1 rfl) ?_
            refine r_get C hP k 2 (by omega) (by assumption) (by decide) rfl hi2 0 (by decide) (List.mem_of_getElem? (i := 3) rfl) rfl (val := .int ((stW w k (lpM d q i)).1 k 0)) rfl dX2_callOut_70 ?_
            refine lv_topE ((lpM d q i) 3) (st_at (i := 3) (sl_k rfl) (by decide)) ?_
            refine lv_aload_n C.1.1 C.1.2.1 dX2_callOut_73 rfl (lv_at hl 1 rfl) ?_
            refine r_get C hP k 2 (by omega) (by assumption) (by decide) rfl hi2 2 (by decide) (List.mem_of_getElem? (i := 4) rfl) rfl (val := .int ((stW w k (lpM d q i)).1 k 2)) rfl dX2_callOut_74 ?_
            refine lv_topE ((lpM d q i) 5) (st_at (i := 5) (sl_k rfl) (by decide)) ?_
            refine a_G hS (run_V C hP hS hl.1 (k + 5 + i) 0 (by omega) (kd_stR k hk i (by omega)) (by decide) rfl [.int (nI q), .int ((lpM d q i) 3), .int ((lpM d q i) 5)] (kX0_stayIn l g n (stW w k (lpM d q i)) (k + 5 + i) (by omega) (kd_stR k hk i (by omega)) (nI q) ((lpM d q i) 3) ((lpM d q i) 5)) gX2_callOut_X0_stayIn rfl hdX0_stayIn rfl ⟨rfl, rfl⟩ ⟨Nat.le_of_ble_eq_true rfl, Nat.le_of_ble_eq_true rfl⟩ rfl [] rfl (Nat.le_of_ble_eq_true rfl) dX2_callOut_77 ⟨Nat.zero_le _, Nat.zero_le _⟩) (fun H locs hP hS => ?_)
            rw [show upw (stW w k (lpM d q i)) (k + 5 + i) (stayR ((stW w k (lpM d q i)).1 (k + 5 + i)) (nI q) ((lpM d q i) 3) ((lpM d q i) 5)) = stW w k (stepM (lpM d q i) q i) from (st_stay (by omega) (okC_R hCi hiN)).trans (congrArg (stW w k) (step_stay hcm ((away_01 (okC_R hCi hiN)).mp hz5)))] at hP
            refine lv_iinc (v := nI (i + 1)) (lv' := [(2, .int (nI (i + 1))), (3, .ref (gA g (k + 5 + i))), (0, .ref (gA g k)), (1, .int (nI q))]) C.1.1 C.1.2.1 dX2_callOut_80 hl (k := 3) rfl (nI_1 i) (by decide) rfl (fun ls hl => ?_)
            refine lv_goto (tgt := 2) C.1.1 C.1.2.1 dX2_callOut_83 (by decide) ?_
            exact ih_2 (i + 1) (by omega) (by omega) _ _ _ hP hS (lv_sub hl [2, 3, 0] rfl)
  exact lp_2 (N + 1) 0 (Nat.zero_le _) (by omega) _ _ _ hP hS (lv_sub hl [1, 2, 0] rfl)

abbrev rmX2_sellRegister : Room := { frames := 2, cells := 0, slots := 0, locals := 46 }
set_option maxHeartbeats 4000000 in
set_option maxRecDepth 100000 in
theorem kX2_sellRegister (l : Launch) (g : GG) (n : Nat) (v : SV)  (w : SV) (k : Nat) (d : Nat → Int32) (N : Nat) (hk : isSt k) (hv : v = stW w k d) (hC : okC d N) : Met l yX2_sellRegister wsX2_sellRegister rmX2_sellRegister (PW g n v [.ref (gA g k)]) (QG g n (stW w k (clrM (upd d 6 (heldF (d 6 + fetchM d) 0 99999)) 12))) 0 0 (wA g n) := by
  refine Met.begin RX2 rfl (by decide) rfl (Nat.le_of_ble_eq_true rfl) ?_
  intro p e s m args below meth c ls ha C hP hS hl
  have hn : 64 ≤ n := C.2.1.1.2.1
  have hi2 : ∀ w ∈ u_ws RX2 TX2 11, w ∈ wsX2_sellRegister := by decide +kernel
  have hl : lv_has ls 1 [(0, .ref (gA g k))] := hl
  rw [hv] at hP
  have hM := okC_M hC
  have h8 := hC.1
  have hk64 : k + 13 ≤ 64 := by rcases hk with h | h | h <;> omega
  obtain ⟨kd0, kd1, kd2, kd3, kd4, ln1, ln2, ln4⟩ := kd_st hk
  refine lv_aload_n C.1.1 C.1.2.1 dX2_sellRegister_0 rfl (lv_at hl 0 rfl) ?_
  refine lv_ldc (v := 99999) C.1.1 C.1.2.1 C.1.2.2.2.1 (C.1.2.2.2.2 _ (List.mem_of_getElem? (i := 1) rfl)) dX2_sellRegister_1 ?_
  refine lv_aload_n C.1.1 C.1.2.1 dX2_sellRegister_3 rfl (lv_at hl 0 rfl) ?_
  refine r_get C hP k 2 (by omega) (by assumption) (by decide) rfl hi2 5 (by decide) (List.mem_of_getElem? (i := 2) rfl) rfl (val := .int ((stW w k d).1 k 5)) rfl dX2_sellRegister_4 ?_
  refine lv_topE (d 6) (st_at (i := 6) (sl_k rfl) (by decide)) ?_
  refine lv_aload_n C.1.1 C.1.2.1 dX2_sellRegister_7 rfl (lv_at hl 0 rfl) ?_
  refine a_F hS (run_V C hP hS hl.1 k 2 (by omega) (by assumption) (by decide) rfl [] (kX2_fetches l g n (stW w k d) w k d N hk rfl hC) gX2_sellRegister_X2_fetches rfl hdX2_fetches rfl ⟨rfl, rfl⟩ ⟨Nat.le_of_ble_eq_true rfl, Nat.le_of_ble_eq_true rfl⟩ rfl [.int (d 6), .int 99999, .ref (gA g k)] rfl (Nat.le_of_ble_eq_true rfl) dX2_sellRegister_8 ⟨Nat.zero_le _, Nat.zero_le _⟩) (fun H locs hP hS => ?_)
  refine lv_iadd C.1.1 C.1.2.1 dX2_sellRegister_11 ?_
  refine va_mmin C.1.1 C.1.2.1 (C.1.2.2.1.trans hl.1.symm) C.1.2.2.2.1 (C.1.2.2.2.2 _ (List.mem_of_getElem? (i := 3) rfl)) (C.1.2.2.2.2 _ (List.mem_of_getElem? (i := 4) rfl)) (C.1.2.2.2.2 _ (List.mem_of_getElem? (i := 5) rfl)) (C.1.2.2.2.2 _ (List.mem_of_getElem? (i := 6) rfl)) (Nat.le_of_ble_eq_true rfl) (Nat.le_of_ble_eq_true rfl) (Nat.le_refl _) (Nat.le_refl _) dX2_sellRegister_12 ?_
  refine lv_topE (heldF (d 6 + fetchM d) 0 99999) (min_held (gf_pos hC)) ?_
  refine r_put C hP hS k 2 (by omega) (by assumption) (by decide) rfl hi2 tyX2 tyX2_ok nmX2 5 (by decide) (List.mem_of_getElem? (i := 2) rfl) rfl rfl rfl rfl rfl (Nat.le_of_ble_eq_true rfl) dX2_sellRegister_15 (fun H locs hP hS => ?_)
  rw [show up (stW w k d) k 5 (heldF (d 6 + fetchM d) 0 99999) = stW w k (upd d 6 (heldF (d 6 + fetchM d) 0 99999)) from st_up (sl_k rfl) (by decide)] at hP
  refine lv_aload_n C.1.1 C.1.2.1 dX2_sellRegister_18 rfl (lv_at hl 0 rfl) ?_
  refine r_get C hP k 2 (by omega) (by assumption) (by decide) rfl hi2 4 (by decide) (List.mem_of_getElem? (i := 7) rfl) rfl (val := .ref (gA g (k + 2))) rfl dX2_sellRegister_19 ?_
  refine lv_iconst (v := 0) C.1.1 C.1.2.1 dX2_sellRegister_22 rfl ?_
  refine a_G hS (run_S C hP hS hl.1 [.ref (gA g (k + 2)), .int 0] (kJ7_fill_53178 l g n (stW w k (upd d 6 (heldF (d 6 + fetchM d) 0 99999))) (k + 2) (by omega) (by assumption) 12 ln2 (by omega) 0) gX2_sellRegister_J7_fill_53178 hdJ7_fill_53178 rfl ⟨rfl, rfl⟩ ⟨Nat.le_of_ble_eq_true rfl, Nat.le_of_ble_eq_true rfl⟩ rfl [] rfl (Nat.le_of_ble_eq_true rfl) dX2_sellRegister_23 ⟨Nat.zero_le _, Nat.zero_le _⟩) (fun H locs hP hS => ?_)
  rw [show upw (stW w k (upd d 6 (heldF (d 6 + fetchM d) 0 99999))) (k + 2) (fillM ((stW w k (upd d 6 (heldF (d 6 + fetchM d) 0 99999))).1 (k + 2)) 0 12) = stW w k (clrM (upd d 6 (heldF (d 6 + fetchM d) 0 99999)) 12) from st_fill] at hP
  exact t_G C rfl hP hS rfl dX2_sellRegister_26

abbrev rmX2_passDay : Room := { frames := 5, cells := 0, slots := 0, locals := 113 }
set_option maxHeartbeats 4000000 in
set_option maxRecDepth 100000 in
theorem kX2_passDay (l : Launch) (g : GG) (n : Nat) (v : SV)  (w : SV) (k : Nat) (d : Nat → Int32) (N : Nat) (hk : isSt k) (hv : v = stW w k d) (hC : okC d N) : Met l yX2_passDay wsX2_passDay rmX2_passDay (PW g n v [.ref (gA g k)]) (QG g n (stW w k (dayM d))) 0 0 (wA g n) := by
  refine Met.begin RX2 rfl (by decide) rfl (Nat.le_of_ble_eq_true rfl) ?_
  intro p e s m args below meth c ls ha C hP hS hl
  have hn : 64 ≤ n := C.2.1.1.2.1
  have hi0 : ∀ w ∈ u_ws RX0 TX0 6, w ∈ wsX2_passDay := by decide +kernel
  have hi2 : ∀ w ∈ u_ws RX2 TX2 11, w ∈ wsX2_passDay := by decide +kernel
  have hl : lv_has ls 1 [(0, .ref (gA g k))] := hl
  rw [hv] at hP
  have hM := okC_M hC
  have h8 := hC.1
  have hk64 : k + 13 ≤ 64 := by rcases hk with h | h | h <;> omega
  obtain ⟨kd0, kd1, kd2, kd3, kd4, ln1, ln2, ln4⟩ := kd_st hk
  obtain ⟨D, hD, hD1⟩ := hM.2.2.1
  have hC1 := okC_mv hC
  obtain ⟨hq, hqe⟩ := okM_gq (okC_M hC1)
  rw [show (mvM d 1).toNatClampNeg = D from by rw [show mvM d 1 = d 1 from rfl, hD1, nI_clamp (by omega)]] at hqe
  obtain ⟨q, hqq⟩ : ∃ zz, zz = gqM (mvM d) := ⟨_, rfl⟩
  rw [← hqq] at hq hqe
  refine lv_aload_n C.1.1 C.1.2.1 dX2_passDay_0 rfl (lv_at hl 0 rfl) ?_
  refine lv_aload_n C.1.1 C.1.2.1 dX2_passDay_1 rfl (lv_at hl 0 rfl) ?_
  refine r_get C hP k 2 (by omega) (by assumption) (by decide) rfl hi2 0 (by decide) (List.mem_of_getElem? (i := 1) rfl) rfl (val := .int ((stW w k d).1 k 0)) rfl dX2_passDay_2 ?_
  refine lv_topE (d 3) (st_at (i := 3) (sl_k rfl) (by decide)) ?_
  refine lv_aload_n C.1.1 C.1.2.1 dX2_passDay_5 rfl (lv_at hl 0 rfl) ?_
  refine r_get C hP k 2 (by omega) (by assumption) (by decide) rfl hi2 1 (by decide) (List.mem_of_getElem? (i := 2) rfl) rfl (val := .int ((stW w k d).1 k 1)) rfl dX2_passDay_6 ?_
  refine lv_topE (d 4) (st_at (i := 4) (sl_k rfl) (by decide)) ?_
  refine lv_iadd C.1.1 C.1.2.1 dX2_passDay_9 ?_
  refine lv_bipush (v := 16) C.1.1 C.1.2.1 dX2_passDay_10 rfl ?_
  refine lv_irem C.1.1 C.1.2.1 dX2_passDay_12 (by decide) ?_
  refine r_put C hP hS k 2 (by omega) (by assumption) (by decide) rfl hi2 tyX2 tyX2_ok nmX2 0 (by decide) (List.mem_of_getElem? (i := 1) rfl) rfl rfl rfl rfl rfl (Nat.le_of_ble_eq_true rfl) dX2_passDay_13 (fun H locs hP hS => ?_)
  rw [show up (stW w k d) k 0 (((d 3) + (d 4)) - ((d 3) + (d 4)) / 16 * 16) = stW w k (mvM d) from st_up (sl_k rfl) (by decide)] at hP
  refine lv_aload_n C.1.1 C.1.2.1 dX2_passDay_16 rfl (lv_at hl 0 rfl) ?_
  refine lv_aload_n C.1.1 C.1.2.1 dX2_passDay_17 rfl (lv_at hl 0 rfl) ?_
  refine r_get C hP k 2 (by omega) (by assumption) (by decide) rfl hi2 3 (by decide) (List.mem_of_getElem? (i := 3) rfl) rfl (val := .ref (gA g (k + 1))) rfl dX2_passDay_18 ?_
  refine lv_aload_n C.1.1 C.1.2.1 dX2_passDay_21 rfl (lv_at hl 0 rfl) ?_
  refine r_get C hP k 2 (by omega) (by assumption) (by decide) rfl hi2 6 (by decide) (List.mem_of_getElem? (i := 4) rfl) rfl (val := .int ((stW w k (mvM d)).1 k 6)) rfl dX2_passDay_22 ?_
  refine lv_topE (nI D) ((st_at (i := 1) (sl_k rfl) (by decide)).trans hD1) ?_
  refine lv_bipush (v := 6) C.1.1 C.1.2.1 dX2_passDay_25 rfl ?_
  refine lv_irem C.1.1 C.1.2.1 dX2_passDay_27 (by decide) ?_
  refine lv_topE (nI (D % 6)) (pk_rem (by omega) (by decide) (by decide)) ?_
  refine r_iald C hP (k + 1) (by omega) (by assumption) (D % 6) rfl (N := 6) ln1 (by decide) (Nat.mod_lt _ (by decide)) dX2_passDay_28 ?_
  refine lv_topE (nI q) ((st_at (i := 7 + D % 6) (sl_1 (by omega)) (by omega)).trans hqe) ?_
  refine a_G hS (run_V C hP hS hl.1 k 2 (by omega) (by assumption) (by decide) rfl [.int (nI q)] (kX2_callOut l g n (stW w k (mvM d)) q hq w k (mvM d) N hk rfl hC1) gX2_passDay_X2_callOut rfl hdX2_callOut rfl ⟨rfl, rfl⟩ ⟨Nat.le_of_ble_eq_true rfl, Nat.le_of_ble_eq_true rfl⟩ rfl [] rfl (Nat.le_of_ble_eq_true rfl) dX2_passDay_29 ⟨Nat.zero_le _, Nat.zero_le _⟩) (fun H locs hP hS => ?_)
  obtain ⟨d3, hd3⟩ : ∃ zz, zz = lpM (mvM d) q N := ⟨_, rfl⟩
  rw [← hd3] at hP
  have hC3 : okC d3 N := by rw [hd3]; exact okC_lp hC1 hq N (Nat.le_refl N)
  have e31 : d3 1 = nI D := by rw [hd3, lpM_lo (by decide) N h8]; exact hD1
  refine lv_aload_n C.1.1 C.1.2.1 dX2_passDay_32 rfl (lv_at hl 0 rfl) ?_
  refine r_get C hP k 2 (by omega) (by assumption) (by decide) rfl hi2 6 (by decide) (List.mem_of_getElem? (i := 4) rfl) rfl (val := .int ((stW w k d3).1 k 6)) rfl dX2_passDay_33 ?_
  refine lv_topE (nI D) ((st_at (i := 1) (sl_k rfl) (by decide)).trans e31) ?_
  refine lv_bipush (v := 7) C.1.1 C.1.2.1 dX2_passDay_36 rfl ?_
  refine lv_irem C.1.1 C.1.2.1 dX2_passDay_38 (by decide) ?_
  refine lv_topE (nI (D % 7)) (pk_rem (by omega) (by decide) (by decide)) ?_
  refine lv_bipush (v := 6) C.1.1 C.1.2.1 dX2_passDay_39 rfl ?_
  refine lv_icmp_ne (tgt := 48) C.1.1 C.1.2.1 dX2_passDay_41 (by decide) (fun c_2 => ?_) (fun c_2 => ?_)
  · rw [show (nI (D % 7) = 6) = (D % 7 = 6) from propext (nI_eq (a := D % 7) (b := 6) (by omega) (by omega))] at c_2
    have h76 := c_2
    obtain ⟨d4, hd4⟩ : ∃ zz, zz = sellM d3 := ⟨_, rfl⟩
    have e34 : d3 = d4 := by rw [hd4, sellM, if_neg (by rw [e31, show (7 : Int32) = nI 7 from rfl, pk_rem (by omega) (by decide) (by decide)]; exact fun h => h76 ((nI_eq (by omega) (by decide)).mp h))]
    rw [e34] at hP
    have e41 : d4 1 = nI D := by rw [← e34]; exact e31
    refine lv_aload_n C.1.1 C.1.2.1 dX2_passDay_48 rfl (lv_at hl 0 rfl) ?_
    refine lv_ldc (v := 99999) C.1.1 C.1.2.1 C.1.2.2.2.1 (C.1.2.2.2.2 _ (List.mem_of_getElem? (i := 5) rfl)) dX2_passDay_49 ?_
    refine lv_aload_n C.1.1 C.1.2.1 dX2_passDay_51 rfl (lv_at hl 0 rfl) ?_
    refine r_get C hP k 2 (by omega) (by assumption) (by decide) rfl hi2 6 (by decide) (List.mem_of_getElem? (i := 4) rfl) rfl (val := .int ((stW w k d4).1 k 6)) rfl dX2_passDay_52 ?_
    refine lv_topE (nI D) ((st_at (i := 1) (sl_k rfl) (by decide)).trans e41) ?_
    refine lv_iconst (v := 1) C.1.1 C.1.2.1 dX2_passDay_55 rfl ?_
    refine lv_iadd C.1.1 C.1.2.1 dX2_passDay_56 ?_
    refine lv_topE (nI (D + 1)) (nI_add D 1) ?_
    refine va_mmin C.1.1 C.1.2.1 (C.1.2.2.1.trans hl.1.symm) C.1.2.2.2.1 (C.1.2.2.2.2 _ (List.mem_of_getElem? (i := 6) rfl)) (C.1.2.2.2.2 _ (List.mem_of_getElem? (i := 7) rfl)) (C.1.2.2.2.2 _ (List.mem_of_getElem? (i := 8) rfl)) (C.1.2.2.2.2 _ (List.mem_of_getElem? (i := 9) rfl)) (Nat.le_of_ble_eq_true rfl) (Nat.le_of_ble_eq_true rfl) (Nat.le_refl _) (Nat.le_refl _) dX2_passDay_57 ?_
    refine lv_topE (heldF (d4 1 + 1) 0 99999) ((min_held (nI_pos' (by omega))).trans (by rw [e41, nI_1])) ?_
    refine r_put C hP hS k 2 (by omega) (by assumption) (by decide) rfl hi2 tyX2 tyX2_ok nmX2 6 (by decide) (List.mem_of_getElem? (i := 4) rfl) rfl rfl rfl rfl rfl (Nat.le_of_ble_eq_true rfl) dX2_passDay_60 (fun H locs hP hS => ?_)
    rw [show up (stW w k d4) k 6 (heldF (d4 1 + 1) 0 99999) = stW w k (upd d4 1 (heldF (d4 1 + 1) 0 99999)) from st_up (sl_k rfl) (by decide)] at hP
    exact t_G C rfl hP hS (by rw [dayM, hC.2.1, nI_clamp (by omega), ← hqq, ← hd3, ← hd4]; rfl) dX2_passDay_63
  · rw [show (nI (D % 7) = 6) = (D % 7 = 6) from propext (nI_eq (a := D % 7) (b := 6) (by omega) (by omega))] at c_2
    have h76 := c_2
    refine lv_aload_n C.1.1 C.1.2.1 dX2_passDay_44 rfl (lv_at hl 0 rfl) ?_
    refine a_G hS (run_V C hP hS hl.1 k 2 (by omega) (by assumption) (by decide) rfl [] (kX2_sellRegister l g n (stW w k d3) w k d3 N hk rfl hC3) gX2_passDay_X2_sellRegister rfl hdX2_sellRegister rfl ⟨rfl, rfl⟩ ⟨Nat.le_of_ble_eq_true rfl, Nat.le_of_ble_eq_true rfl⟩ rfl [] rfl (Nat.le_of_ble_eq_true rfl) dX2_passDay_45 ⟨Nat.zero_le _, Nat.zero_le _⟩) (fun H locs hP hS => ?_)
    obtain ⟨d4, hd4⟩ : ∃ zz, zz = sellM d3 := ⟨_, rfl⟩
    rw [show clrM (upd d3 6 (heldF (d3 6 + fetchM d3) 0 99999)) 12 = d4 from by rw [hd4, sellM, if_pos (by rw [e31, show (7 : Int32) = nI 7 from rfl, pk_rem (by omega) (by decide) (by decide), h76]; rfl)]] at hP
    have e41 : d4 1 = nI D := by rw [hd4, sellM_1]; exact e31
    refine lv_aload_n C.1.1 C.1.2.1 dX2_passDay_48 rfl (lv_at hl 0 rfl) ?_
    refine lv_ldc (v := 99999) C.1.1 C.1.2.1 C.1.2.2.2.1 (C.1.2.2.2.2 _ (List.mem_of_getElem? (i := 5) rfl)) dX2_passDay_49 ?_
    refine lv_aload_n C.1.1 C.1.2.1 dX2_passDay_51 rfl (lv_at hl 0 rfl) ?_
    refine r_get C hP k 2 (by omega) (by assumption) (by decide) rfl hi2 6 (by decide) (List.mem_of_getElem? (i := 4) rfl) rfl (val := .int ((stW w k d4).1 k 6)) rfl dX2_passDay_52 ?_
    refine lv_topE (nI D) ((st_at (i := 1) (sl_k rfl) (by decide)).trans e41) ?_
    refine lv_iconst (v := 1) C.1.1 C.1.2.1 dX2_passDay_55 rfl ?_
    refine lv_iadd C.1.1 C.1.2.1 dX2_passDay_56 ?_
    refine lv_topE (nI (D + 1)) (nI_add D 1) ?_
    refine va_mmin C.1.1 C.1.2.1 (C.1.2.2.1.trans hl.1.symm) C.1.2.2.2.1 (C.1.2.2.2.2 _ (List.mem_of_getElem? (i := 6) rfl)) (C.1.2.2.2.2 _ (List.mem_of_getElem? (i := 7) rfl)) (C.1.2.2.2.2 _ (List.mem_of_getElem? (i := 8) rfl)) (C.1.2.2.2.2 _ (List.mem_of_getElem? (i := 9) rfl)) (Nat.le_of_ble_eq_true rfl) (Nat.le_of_ble_eq_true rfl) (Nat.le_refl _) (Nat.le_refl _) dX2_passDay_57 ?_
    refine lv_topE (heldF (d4 1 + 1) 0 99999) ((min_held (nI_pos' (by omega))).trans (by rw [e41, nI_1])) ?_
    refine r_put C hP hS k 2 (by omega) (by assumption) (by decide) rfl hi2 tyX2 tyX2_ok nmX2 6 (by decide) (List.mem_of_getElem? (i := 4) rfl) rfl rfl rfl rfl rfl (Nat.le_of_ble_eq_true rfl) dX2_passDay_60 (fun H locs hP hS => ?_)
    rw [show up (stW w k d4) k 6 (heldF (d4 1 + 1) 0 99999) = stW w k (upd d4 1 (heldF (d4 1 + 1) 0 99999)) from st_up (sl_k rfl) (by decide)] at hP
    exact t_G C rfl hP hS (by rw [dayM, hC.2.1, nI_clamp (by omega), ← hqq, ← hd3, ← hd4]; rfl) dX2_passDay_63

abbrev rmX2_passDays : Room := { frames := 6, cells := 0, slots := 0, locals := 133 }
set_option maxHeartbeats 4000000 in
set_option maxRecDepth 100000 in
theorem kX2_passDays (l : Launch) (g : GG) (n : Nat) (v : SV) (z : Nat) (hz : z < 2 ^ 30) (w : SV) (k : Nat) (d : Nat → Int32) (N : Nat) (hk : isSt k) (hv : v = stW w k d) (hC : okC d N) : Met l yX2_passDays wsX2_passDays rmX2_passDays (PW g n v [.ref (gA g k), .int (nI z)]) (QG g n (stW w k (daysM d z))) 0 0 (wA g n) := by
  refine Met.begin RX2 rfl (by decide) rfl (Nat.le_of_ble_eq_true rfl) ?_
  intro p e s m args below meth c ls ha C hP hS hl
  have hn : 64 ≤ n := C.2.1.1.2.1
  have hi0 : ∀ w ∈ u_ws RX0 TX0 6, w ∈ wsX2_passDays := by decide +kernel
  have hi2 : ∀ w ∈ u_ws RX2 TX2 11, w ∈ wsX2_passDays := by decide +kernel
  have hl : lv_has ls 3 [(0, .ref (gA g k)), (1, .int (nI z))] := hl
  rw [hv] at hP
  have hM := okC_M hC
  have h8 := hC.1
  have hk64 : k + 13 ≤ 64 := by rcases hk with h | h | h <;> omega
  obtain ⟨kd0, kd1, kd2, kd3, kd4, ln1, ln2, ln4⟩ := kd_st hk
  refine lv_iconst (v := 0) C.1.1 C.1.2.1 dX2_passDays_0 rfl ?_
  refine lv_istore_n (lv' := [(2, .int 0), (0, .ref (gA g k)), (1, .int (nI z))]) C.1.1 C.1.2.1 dX2_passDays_1 rfl hl (by decide) rfl (fun ls hl => ?_)
  have lp_2 : ∀ (k_2 i : Nat), i ≤ z → z + 1 ≤ i + k_2 → ∀ (H : Heap) (locs : List Loc) (ls : Array Slot), va_P g.1 vwCl (wl g n (stW w k (daysM d i))) H → va_S (wA g n) s.heap H locs → lv_has ls 3 [(0, .ref (gA g k)), (1, .int (nI z)), (2, .int (nI i))] → W p l e rmX2_passDays s m args below meth c H locs 0 0 (MQ below (QG g n (stW w k (daysM d z))) args s 0 0 (wA g n)) (F0 m 2 ls []) := by
    clear hP hS hl
    intro k_2
    induction k_2 with
    | zero => exact fun i h1 h2 => absurd h2 (by omega)
    | succ k_2 ih_2 =>
      intro i hi_2 hk_2 H locs ls hP hS hl
      refine lv_iload_n C.1.1 C.1.2.1 dX2_passDays_2 rfl (lv_at hl 2 rfl) ?_
      refine lv_iload_n C.1.1 C.1.2.1 dX2_passDays_3 rfl (lv_at hl 1 rfl) ?_
      refine lv_icmp_ge (tgt := 17) C.1.1 C.1.2.1 dX2_passDays_4 (by decide) (fun c_1 => ?_) (fun c_1 => ?_)
      · rw [show (nI z ≤ nI i) = (z ≤ i) from propext (nI_leI (a := z) (b := i) (by omega) (by omega))] at c_1
        have hiz : i = z := by omega
        exact t_G C rfl hP hS (by rw [hiz]) dX2_passDays_17
      · rw [show (nI z ≤ nI i) = (z ≤ i) from propext (nI_leI (a := z) (b := i) (by omega) (by omega))] at c_1
        refine lv_aload_n C.1.1 C.1.2.1 dX2_passDays_7 rfl (lv_at hl 0 rfl) ?_
        refine a_G hS (run_V C hP hS hl.1 k 2 (by omega) (by assumption) (by decide) rfl [] (kX2_passDay l g n (stW w k (daysM d i)) w k (daysM d i) N hk rfl (okC_days hC i)) gX2_passDays_X2_passDay rfl hdX2_passDay rfl ⟨rfl, rfl⟩ ⟨Nat.le_of_ble_eq_true rfl, Nat.le_of_ble_eq_true rfl⟩ rfl [] rfl (Nat.le_of_ble_eq_true rfl) dX2_passDays_8 ⟨Nat.zero_le _, Nat.zero_le _⟩) (fun H locs hP hS => ?_)
        refine lv_iinc (v := nI (i + 1)) (lv' := [(2, .int (nI (i + 1))), (0, .ref (gA g k)), (1, .int (nI z))]) C.1.1 C.1.2.1 dX2_passDays_11 hl (k := 2) rfl (nI_1 i) (by decide) rfl (fun ls hl => ?_)
        refine lv_goto (tgt := 2) C.1.1 C.1.2.1 dX2_passDays_14 (by decide) ?_
        exact ih_2 (i + 1) (by omega) (by omega) _ _ _ hP hS (lv_sub hl [1, 2, 0] rfl)
  exact lp_2 (z + 1) 0 (Nat.zero_le _) (by omega) _ _ _ hP hS (lv_sub hl [1, 2, 0] rfl)

abbrev rmX2_become : Room := { frames := 1, cells := 0, slots := 0, locals := 60 }
set_option maxHeartbeats 4000000 in
set_option maxRecDepth 100000 in
theorem kX2_become (l : Launch) (g : GG) (n : Nat) (v : SV) (w : SV) (k : Nat) (d : Nat → Int32) (o N : Nat) (hk : isSt k) (ho : isSt o) (hne : k ≠ o) (hv : v = stW w k d) (hO : okC (stR w o) N) : Met l yX2_become wsX2_become rmX2_become (PW g n v [.ref (gA g k), .ref (gA g o)]) (QG g n (stW w k (becM d (stR w o) N))) 0 0 (wA g n) := by
  refine Met.begin RX2 rfl (by decide) rfl (Nat.le_of_ble_eq_true rfl) ?_
  intro p e s m args below meth c ls ha C hP hS hl
  have hn : 64 ≤ n := C.2.1.1.2.1
  have hi0 : ∀ w ∈ u_ws RX0 TX0 6, w ∈ wsX2_become := by decide +kernel
  have hi2 : ∀ w ∈ u_ws RX2 TX2 11, w ∈ wsX2_become := by decide +kernel
  have hl : lv_has ls 3 [(0, .ref (gA g k)), (1, .ref (gA g o))] := hl
  rw [hv] at hP
  have h8 := hO.1
  have hdj : o + 13 ≤ k ∨ k + 13 ≤ o := by rcases hk with h | h | h <;> rcases ho with h2 | h2 | h2 <;> omega
  have hk64 : k + 13 ≤ 64 := by rcases hk with h | h | h <;> omega
  have ho64 : o + 13 ≤ 64 := by rcases ho with h | h | h <;> omega
  obtain ⟨kd0, kd1, kd2, kd3, kd4, ln1, ln2, ln4⟩ := kd_st hk
  obtain ⟨kd0o, kd1o, kd2o, kd3o, kd4o, ln1o, ln2o, ln4o⟩ := kd_st ho
  refine lv_aload_n C.1.1 C.1.2.1 dX2_become_0 rfl (lv_at hl 0 rfl) ?_
  refine lv_aload_n C.1.1 C.1.2.1 dX2_become_1 rfl (lv_at hl 1 rfl) ?_
  refine r_get C hP o 2 (by omega) (by assumption) (by decide) rfl hi2 0 (by decide) (List.mem_of_getElem? (i := 1) rfl) rfl (val := .int ((stW w k d).1 o 0)) rfl dX2_become_2 ?_
  refine lv_topE (stR w o 3) (congrFun (st_far (by omega)) _) ?_
  refine r_put C hP hS k 2 (by omega) (by assumption) (by decide) rfl hi2 tyX2 tyX2_ok nmX2 0 (by decide) (List.mem_of_getElem? (i := 1) rfl) rfl rfl rfl rfl rfl (Nat.le_of_ble_eq_true rfl) dX2_become_5 (fun H locs hP hS => ?_)
  rw [show up (stW w k d) k 0 (stR w o 3) = stW w k (upd d 3 (stR w o 3)) from st_up (sl_k rfl) (by decide)] at hP
  refine lv_aload_n C.1.1 C.1.2.1 dX2_become_8 rfl (lv_at hl 0 rfl) ?_
  refine lv_aload_n C.1.1 C.1.2.1 dX2_become_9 rfl (lv_at hl 1 rfl) ?_
  refine r_get C hP o 2 (by omega) (by assumption) (by decide) rfl hi2 1 (by decide) (List.mem_of_getElem? (i := 2) rfl) rfl (val := .int ((stW w k (upd d 3 (stR w o 3))).1 o 1)) rfl dX2_become_10 ?_
  refine lv_topE (stR w o 4) (congrFun (st_far (by omega)) _) ?_
  refine r_put C hP hS k 2 (by omega) (by assumption) (by decide) rfl hi2 tyX2 tyX2_ok nmX2 1 (by decide) (List.mem_of_getElem? (i := 2) rfl) rfl rfl rfl rfl rfl (Nat.le_of_ble_eq_true rfl) dX2_become_13 (fun H locs hP hS => ?_)
  rw [show up (stW w k (upd d 3 (stR w o 3))) k 1 (stR w o 4) = stW w k (upd (upd d 3 (stR w o 3)) 4 (stR w o 4)) from st_up (sl_k rfl) (by decide)] at hP
  refine lv_aload_n C.1.1 C.1.2.1 dX2_become_16 rfl (lv_at hl 0 rfl) ?_
  refine lv_aload_n C.1.1 C.1.2.1 dX2_become_17 rfl (lv_at hl 1 rfl) ?_
  refine r_get C hP o 2 (by omega) (by assumption) (by decide) rfl hi2 2 (by decide) (List.mem_of_getElem? (i := 3) rfl) rfl (val := .int ((stW w k (upd (upd d 3 (stR w o 3)) 4 (stR w o 4))).1 o 2)) rfl dX2_become_18 ?_
  refine lv_topE (stR w o 5) (congrFun (st_far (by omega)) _) ?_
  refine r_put C hP hS k 2 (by omega) (by assumption) (by decide) rfl hi2 tyX2 tyX2_ok nmX2 2 (by decide) (List.mem_of_getElem? (i := 3) rfl) rfl rfl rfl rfl rfl (Nat.le_of_ble_eq_true rfl) dX2_become_21 (fun H locs hP hS => ?_)
  rw [show up (stW w k (upd (upd d 3 (stR w o 3)) 4 (stR w o 4))) k 2 (stR w o 5) = stW w k (upd (upd (upd d 3 (stR w o 3)) 4 (stR w o 4)) 5 (stR w o 5)) from st_up (sl_k rfl) (by decide)] at hP
  refine lv_aload_n C.1.1 C.1.2.1 dX2_become_24 rfl (lv_at hl 1 rfl) ?_
  refine r_get C hP o 2 (by omega) (by assumption) (by decide) rfl hi2 3 (by decide) (List.mem_of_getElem? (i := 4) rfl) rfl (val := .ref (gA g (o + 1))) rfl dX2_become_25 ?_
  refine lv_iconst (v := 0) C.1.1 C.1.2.1 dX2_become_28 rfl ?_
  refine lv_aload_n C.1.1 C.1.2.1 dX2_become_29 rfl (lv_at hl 0 rfl) ?_
  refine r_get C hP k 2 (by omega) (by assumption) (by decide) rfl hi2 3 (by decide) (List.mem_of_getElem? (i := 4) rfl) rfl (val := .ref (gA g (k + 1))) rfl dX2_become_30 ?_
  refine lv_iconst (v := 0) C.1.1 C.1.2.1 dX2_become_33 rfl ?_
  refine lv_bipush (v := 6) C.1.1 C.1.2.1 dX2_become_34 rfl ?_
  refine r_copy C hP hS hl.1 (o + 1) (k + 1) (by omega) (by omega) (by assumption) (by assumption) 0 0 6 ln1o ln1 (by omega) (by omega) (by omega) (by omega) rfl rfl rfl (List.mem_of_getElem? (i := 5) rfl) (List.mem_of_getElem? (i := 6) rfl) (List.mem_of_getElem? (i := 7) rfl) (List.mem_of_getElem? (i := 8) rfl) (Nat.le_of_ble_eq_true rfl) (Nat.le_of_ble_eq_true rfl) dX2_become_36 (fun H locs hP hS => ?_)
  rw [show upw (stW w k (upd (upd (upd d 3 (stR w o 3)) 4 (stR w o 4)) 5 (stR w o 5))) (k + 1) (va_cpy ((stW w k (upd (upd (upd d 3 (stR w o 3)) 4 (stR w o 4)) 5 (stR w o 5))).1 (o + 1)) ((stW w k (upd (upd (upd d 3 (stR w o 3)) 4 (stR w o 4)) 5 (stR w o 5))).1 (k + 1)) 0 0 6) = stW w k (seg (upd (upd (upd d 3 (stR w o 3)) 4 (stR w o 4)) 5 (stR w o 5)) (stR w o) 7 13) from st_cp1 hdj] at hP
  refine lv_aload_n C.1.1 C.1.2.1 dX2_become_39 rfl (lv_at hl 1 rfl) ?_
  refine r_get C hP o 2 (by omega) (by assumption) (by decide) rfl hi2 4 (by decide) (List.mem_of_getElem? (i := 9) rfl) rfl (val := .ref (gA g (o + 2))) rfl dX2_become_40 ?_
  refine lv_iconst (v := 0) C.1.1 C.1.2.1 dX2_become_43 rfl ?_
  refine lv_aload_n C.1.1 C.1.2.1 dX2_become_44 rfl (lv_at hl 0 rfl) ?_
  refine r_get C hP k 2 (by omega) (by assumption) (by decide) rfl hi2 4 (by decide) (List.mem_of_getElem? (i := 9) rfl) rfl (val := .ref (gA g (k + 2))) rfl dX2_become_45 ?_
  refine lv_iconst (v := 0) C.1.1 C.1.2.1 dX2_become_48 rfl ?_
  refine lv_bipush (v := 12) C.1.1 C.1.2.1 dX2_become_49 rfl ?_
  refine r_copy C hP hS hl.1 (o + 2) (k + 2) (by omega) (by omega) (by assumption) (by assumption) 0 0 12 ln2o ln2 (by omega) (by omega) (by omega) (by omega) rfl rfl rfl (List.mem_of_getElem? (i := 5) rfl) (List.mem_of_getElem? (i := 6) rfl) (List.mem_of_getElem? (i := 7) rfl) (List.mem_of_getElem? (i := 8) rfl) (Nat.le_of_ble_eq_true rfl) (Nat.le_of_ble_eq_true rfl) dX2_become_51 (fun H locs hP hS => ?_)
  rw [show upw (stW w k (seg (upd (upd (upd d 3 (stR w o 3)) 4 (stR w o 4)) 5 (stR w o 5)) (stR w o) 7 13)) (k + 2) (va_cpy ((stW w k (seg (upd (upd (upd d 3 (stR w o 3)) 4 (stR w o 4)) 5 (stR w o 5)) (stR w o) 7 13)).1 (o + 2)) ((stW w k (seg (upd (upd (upd d 3 (stR w o 3)) 4 (stR w o 4)) 5 (stR w o 5)) (stR w o) 7 13)).1 (k + 2)) 0 0 12) = stW w k (seg (seg (upd (upd (upd d 3 (stR w o 3)) 4 (stR w o 4)) 5 (stR w o 5)) (stR w o) 7 13) (stR w o) 13 25) from st_cp2 hdj] at hP
  refine lv_aload_n C.1.1 C.1.2.1 dX2_become_54 rfl (lv_at hl 0 rfl) ?_
  refine lv_aload_n C.1.1 C.1.2.1 dX2_become_55 rfl (lv_at hl 1 rfl) ?_
  refine r_get C hP o 2 (by omega) (by assumption) (by decide) rfl hi2 5 (by decide) (List.mem_of_getElem? (i := 10) rfl) rfl (val := .int ((stW w k (seg (seg (upd (upd (upd d 3 (stR w o 3)) 4 (stR w o 4)) 5 (stR w o 5)) (stR w o) 7 13) (stR w o) 13 25)).1 o 5)) rfl dX2_become_56 ?_
  refine lv_topE (stR w o 6) (congrFun (st_far (by omega)) _) ?_
  refine r_put C hP hS k 2 (by omega) (by assumption) (by decide) rfl hi2 tyX2 tyX2_ok nmX2 5 (by decide) (List.mem_of_getElem? (i := 10) rfl) rfl rfl rfl rfl rfl (Nat.le_of_ble_eq_true rfl) dX2_become_59 (fun H locs hP hS => ?_)
  rw [show up (stW w k (seg (seg (upd (upd (upd d 3 (stR w o 3)) 4 (stR w o 4)) 5 (stR w o 5)) (stR w o) 7 13) (stR w o) 13 25)) k 5 (stR w o 6) = stW w k (upd (seg (seg (upd (upd (upd d 3 (stR w o 3)) 4 (stR w o 4)) 5 (stR w o 5)) (stR w o) 7 13) (stR w o) 13 25) 6 (stR w o 6)) from st_up (sl_k rfl) (by decide)] at hP
  refine lv_aload_n C.1.1 C.1.2.1 dX2_become_62 rfl (lv_at hl 0 rfl) ?_
  refine lv_aload_n C.1.1 C.1.2.1 dX2_become_63 rfl (lv_at hl 1 rfl) ?_
  refine r_get C hP o 2 (by omega) (by assumption) (by decide) rfl hi2 6 (by decide) (List.mem_of_getElem? (i := 11) rfl) rfl (val := .int ((stW w k (upd (seg (seg (upd (upd (upd d 3 (stR w o 3)) 4 (stR w o 4)) 5 (stR w o 5)) (stR w o) 7 13) (stR w o) 13 25) 6 (stR w o 6))).1 o 6)) rfl dX2_become_64 ?_
  refine lv_topE (stR w o 1) (congrFun (st_far (by omega)) _) ?_
  refine r_put C hP hS k 2 (by omega) (by assumption) (by decide) rfl hi2 tyX2 tyX2_ok nmX2 6 (by decide) (List.mem_of_getElem? (i := 11) rfl) rfl rfl rfl rfl rfl (Nat.le_of_ble_eq_true rfl) dX2_become_67 (fun H locs hP hS => ?_)
  rw [show up (stW w k (upd (seg (seg (upd (upd (upd d 3 (stR w o 3)) 4 (stR w o 4)) 5 (stR w o 5)) (stR w o) 7 13) (stR w o) 13 25) 6 (stR w o 6))) k 6 (stR w o 1) = stW w k (upd (upd (seg (seg (upd (upd (upd d 3 (stR w o 3)) 4 (stR w o 4)) 5 (stR w o 5)) (stR w o) 7 13) (stR w o) 13 25) 6 (stR w o 6)) 1 (stR w o 1)) from st_up (sl_k rfl) (by decide)] at hP
  refine lv_aload_n C.1.1 C.1.2.1 dX2_become_70 rfl (lv_at hl 0 rfl) ?_
  refine lv_aload_n C.1.1 C.1.2.1 dX2_become_71 rfl (lv_at hl 1 rfl) ?_
  refine r_get C hP o 2 (by omega) (by assumption) (by decide) rfl hi2 7 (by decide) (List.mem_of_getElem? (i := 12) rfl) rfl (val := .int ((stW w k (upd (upd (seg (seg (upd (upd (upd d 3 (stR w o 3)) 4 (stR w o 4)) 5 (stR w o 5)) (stR w o) 7 13) (stR w o) 13 25) 6 (stR w o 6)) 1 (stR w o 1))).1 o 7)) rfl dX2_become_72 ?_
  refine lv_topE (stR w o 2) (congrFun (st_far (by omega)) _) ?_
  refine r_put C hP hS k 2 (by omega) (by assumption) (by decide) rfl hi2 tyX2 tyX2_ok nmX2 7 (by decide) (List.mem_of_getElem? (i := 12) rfl) rfl rfl rfl rfl rfl (Nat.le_of_ble_eq_true rfl) dX2_become_75 (fun H locs hP hS => ?_)
  rw [show up (stW w k (upd (upd (seg (seg (upd (upd (upd d 3 (stR w o 3)) 4 (stR w o 4)) 5 (stR w o 5)) (stR w o) 7 13) (stR w o) 13 25) 6 (stR w o 6)) 1 (stR w o 1))) k 7 (stR w o 2) = stW w k (upd (upd (upd (seg (seg (upd (upd (upd d 3 (stR w o 3)) 4 (stR w o 4)) 5 (stR w o 5)) (stR w o) 7 13) (stR w o) 13 25) 6 (stR w o 6)) 1 (stR w o 1)) 2 (stR w o 2)) from st_up (sl_k rfl) (by decide)] at hP
  refine lv_aload_n C.1.1 C.1.2.1 dX2_become_78 rfl (lv_at hl 0 rfl) ?_
  refine lv_aload_n C.1.1 C.1.2.1 dX2_become_79 rfl (lv_at hl 1 rfl) ?_
  refine r_get C hP o 2 (by omega) (by assumption) (by decide) rfl hi2 8 (by decide) (List.mem_of_getElem? (i := 13) rfl) rfl (val := .int ((stW w k (upd (upd (upd (seg (seg (upd (upd (upd d 3 (stR w o 3)) 4 (stR w o 4)) 5 (stR w o 5)) (stR w o) 7 13) (stR w o) 13 25) 6 (stR w o 6)) 1 (stR w o 1)) 2 (stR w o 2))).1 o 8)) rfl dX2_become_80 ?_
  refine lv_topE (stR w o 0) (congrFun (st_far (by omega)) _) ?_
  refine r_put C hP hS k 2 (by omega) (by assumption) (by decide) rfl hi2 tyX2 tyX2_ok nmX2 8 (by decide) (List.mem_of_getElem? (i := 13) rfl) rfl rfl rfl rfl rfl (Nat.le_of_ble_eq_true rfl) dX2_become_83 (fun H locs hP hS => ?_)
  rw [show up (stW w k (upd (upd (upd (seg (seg (upd (upd (upd d 3 (stR w o 3)) 4 (stR w o 4)) 5 (stR w o 5)) (stR w o) 7 13) (stR w o) 13 25) 6 (stR w o 6)) 1 (stR w o 1)) 2 (stR w o 2))) k 8 (stR w o 0) = stW w k (upd (upd (upd (upd (seg (seg (upd (upd (upd d 3 (stR w o 3)) 4 (stR w o 4)) 5 (stR w o 5)) (stR w o) 7 13) (stR w o) 13 25) 6 (stR w o 6)) 1 (stR w o 1)) 2 (stR w o 2)) 0 (stR w o 0)) from st_up (sl_k rfl) (by decide)] at hP
  obtain ⟨d3, hd3⟩ : ∃ zz, zz = bc1 d (stR w o) := ⟨_, rfl⟩
  rw [show stW w k (upd (upd (upd (upd (seg (seg (upd (upd (upd d 3 (stR w o 3)) 4 (stR w o 4)) 5 (stR w o 5)) (stR w o) 7 13) (stR w o) 13 25) 6 (stR w o 6)) 1 (stR w o 1)) 2 (stR w o 2)) 0 (stR w o 0)) = stW w k d3 from by rw [hd3]; rfl] at hP
  refine lv_iconst (v := 0) C.1.1 C.1.2.1 dX2_become_86 rfl ?_
  refine lv_istore_n (lv' := [(2, .int 0), (0, .ref (gA g k)), (1, .ref (gA g o))]) C.1.1 C.1.2.1 dX2_become_87 rfl hl (by decide) rfl (fun ls hl => ?_)
  have lp_88 : ∀ (k_88 i : Nat), i ≤ N → N + 1 ≤ i + k_88 → ∀ (H : Heap) (locs : List Loc) (ls : Array Slot), va_P g.1 vwCl (wl g n (stW w k (rlM d3 (stR w o) i))) H → va_S (wA g n) s.heap H locs → lv_has ls 3 [(0, .ref (gA g k)), (1, .ref (gA g o)), (2, .int (nI i))] → W p l e rmX2_become s m args below meth c H locs 0 0 (MQ below (QG g n (stW w k (becM d (stR w o) N))) args s 0 0 (wA g n)) (F0 m 88 ls []) := by
    clear hP hS hl
    intro k_88
    induction k_88 with
    | zero => exact fun i h1 h2 => absurd h2 (by omega)
    | succ k_88 ih_88 =>
      intro i hi_88 hk_88 H locs ls hP hS hl
      refine lv_iload_n C.1.1 C.1.2.1 dX2_become_88 rfl (lv_at hl 2 rfl) ?_
      refine lv_aload_n C.1.1 C.1.2.1 dX2_become_89 rfl (lv_at hl 0 rfl) ?_
      refine r_get C hP k 2 (by omega) (by assumption) (by decide) rfl hi2 8 (by decide) (List.mem_of_getElem? (i := 13) rfl) rfl (val := .int ((stW w k (rlM d3 (stR w o) i)).1 k 8)) rfl dX2_become_90 ?_
      refine lv_topE (nI N) ((st_at (i := 0) (sl_k rfl) (by decide)).trans (by rw [rl_at i (by omega), if_neg (by omega), hd3]; exact hO.2.1)) ?_
      refine lv_icmp_ge (tgt := 117) C.1.1 C.1.2.1 dX2_become_93 (by decide) (fun c_8 => ?_) (fun c_8 => ?_)
      · rw [show (nI N ≤ nI i) = (N ≤ i) from propext (nI_leI (a := N) (b := i) (by omega) (by omega))] at c_8
        have hiN : i = N := by omega
        refine lv_aload_n C.1.1 C.1.2.1 dX2_become_117 rfl (lv_at hl 1 rfl) ?_
        refine r_get C hP o 2 (by omega) (by assumption) (by decide) rfl hi2 10 (by decide) (List.mem_of_getElem? (i := 15) rfl) rfl (val := .ref (gA g (o + 4))) rfl dX2_become_118 ?_
        refine lv_iconst (v := 0) C.1.1 C.1.2.1 dX2_become_121 rfl ?_
        refine lv_aload_n C.1.1 C.1.2.1 dX2_become_122 rfl (lv_at hl 0 rfl) ?_
        refine r_get C hP k 2 (by omega) (by assumption) (by decide) rfl hi2 10 (by decide) (List.mem_of_getElem? (i := 15) rfl) rfl (val := .ref (gA g (k + 4))) rfl dX2_become_123 ?_
        refine lv_iconst (v := 0) C.1.1 C.1.2.1 dX2_become_126 rfl ?_
        refine lv_bipush (v := 10) C.1.1 C.1.2.1 dX2_become_127 rfl ?_
        refine r_copy C hP hS hl.1 (o + 4) (k + 4) (by omega) (by omega) (by assumption) (by assumption) 0 0 10 ln4o ln4 (by omega) (by omega) (by omega) (by omega) rfl rfl rfl (List.mem_of_getElem? (i := 5) rfl) (List.mem_of_getElem? (i := 6) rfl) (List.mem_of_getElem? (i := 7) rfl) (List.mem_of_getElem? (i := 8) rfl) (Nat.le_of_ble_eq_true rfl) (Nat.le_of_ble_eq_true rfl) dX2_become_129 (fun H locs hP hS => ?_)
        rw [show upw (stW w k (rlM d3 (stR w o) i)) (k + 4) (va_cpy ((stW w k (rlM d3 (stR w o) i)).1 (o + 4)) ((stW w k (rlM d3 (stR w o) i)).1 (k + 4)) 0 0 10) = stW w k (seg (rlM d3 (stR w o) i) (stR w o) 73 83) from st_cp4 hdj] at hP
        exact t_G C rfl hP hS (by rw [hiN, hd3]; exact st_become h8) dX2_become_132
      · rw [show (nI N ≤ nI i) = (N ≤ i) from propext (nI_leI (a := N) (b := i) (by omega) (by omega))] at c_8
        refine lv_aload_n C.1.1 C.1.2.1 dX2_become_96 rfl (lv_at hl 0 rfl) ?_
        refine r_get C hP k 2 (by omega) (by assumption) (by decide) rfl hi2 9 (by decide) (List.mem_of_getElem? (i := 14) rfl) rfl (val := .ref (gA g (k + 3))) rfl dX2_become_97 ?_
        refine lv_iload_n C.1.1 C.1.2.1 dX2_become_100 rfl (lv_at hl 2 rfl) ?_
        refine r_aald C hP (k + 3) (by omega) (by assumption) i rfl (by omega) dX2_become_101 ?_
        refine lv_aload_n C.1.1 C.1.2.1 dX2_become_102 rfl (lv_at hl 1 rfl) ?_
        refine r_get C hP o 2 (by omega) (by assumption) (by decide) rfl hi2 9 (by decide) (List.mem_of_getElem? (i := 14) rfl) rfl (val := .ref (gA g (o + 3))) rfl dX2_become_103 ?_
        refine lv_iload_n C.1.1 C.1.2.1 dX2_become_106 rfl (lv_at hl 2 rfl) ?_
        refine r_aald C hP (o + 3) (by omega) (by assumption) i rfl (by omega) dX2_become_107 ?_
        refine a_G hS (run_V C hP hS hl.1 (k + 5 + i) 0 (by omega) (kd_stR k hk i (by omega)) (by decide) rfl [.ref (gA g (o + 5 + i))] (kX0_become l g n (stW w k (rlM d3 (stR w o) i)) (k + 5 + i) (by omega) (kd_stR k hk i (by omega)) (o + 5 + i) (by omega) (kd_stR o ho i (by omega)) (by omega)) gX2_become_X0_become rfl hdX0_become rfl ⟨rfl, rfl⟩ ⟨Nat.le_of_ble_eq_true rfl, Nat.le_of_ble_eq_true rfl⟩ rfl [] rfl (Nat.le_of_ble_eq_true rfl) dX2_become_108 ⟨Nat.zero_le _, Nat.zero_le _⟩) (fun H locs hP hS => ?_)
        rw [show upw (stW w k (rlM d3 (stR w o) i)) (k + 5 + i) (becR ((stW w k (rlM d3 (stR w o) i)).1 (k + 5 + i)) ((stW w k (rlM d3 (stR w o) i)).1 (o + 5 + i))) = stW w k (rsg (rlM d3 (stR w o) i) (stR w o) i) from st_bec (by omega) hdj] at hP
        refine lv_iinc (v := nI (i + 1)) (lv' := [(2, .int (nI (i + 1))), (0, .ref (gA g k)), (1, .ref (gA g o))]) C.1.1 C.1.2.1 dX2_become_111 hl (k := 2) rfl (nI_1 i) (by decide) rfl (fun ls hl => ?_)
        refine lv_goto (tgt := 88) C.1.1 C.1.2.1 dX2_become_114 (by decide) ?_
        exact ih_88 (i + 1) (by omega) (by omega) _ _ _ hP hS (lv_sub hl [1, 2, 0] rfl)
  exact lp_88 (N + 1) 0 (Nat.zero_le _) (by omega) _ _ _ hP hS (lv_sub hl [1, 2, 0] rfl)

