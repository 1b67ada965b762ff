abbrev rmX5_seed : Room := { frames := 0, cells := 0, slots := 0, locals := 0 }
set_option maxHeartbeats 4000000 in
set_option maxRecDepth 100000 in
theorem kX5_seed (l : Launch) (g : GG) (n : Nat) (v : SV) (x : Int32) (N : Nat) (hR : Rl v N) : Met l yX5_seed wsX5_seed rmX5_seed (PW g n v [.ref (gA g 0), .int x]) (QP g n v (fun u => seedM u x)) 0 0 (wA g n) := by
  refine Met.begin RX5 rfl (by decide) rfl (Nat.le_of_ble_eq_true rfl) ?_
  intro p e s m args below meth c ls ha C hP hS hl
  have hn : 64 ≤ n := C.2.1.1.2.1
  have hi2 : ∀ w ∈ u_ws RX2 TX2 11, w ∈ wsX5_seed := by decide +kernel
  have hi5 : ∀ w ∈ u_ws RX5 TX5 8, w ∈ wsX5_seed := by decide +kernel
  have hl : lv_has ls 3 [(0, .ref (gA g 0)), (1, .int x)] := hl
  have hC := hR.1.1
  have hA := hR.1.2
  have h8 := hC.1
  have hD : okC (v.1 54) N := okC_agr (agr_symm hA) hC
  have hM := okC_M hD
  refine lv_aload_n C.1.1 C.1.2.1 dX5_seed_0 rfl (lv_at hl 0 rfl) ?_
  refine r_get C hP 0 5 (Nat.lt_of_lt_of_le (by decide) hn) rfl (by decide) rfl hi5 0 (by decide) (List.mem_of_getElem? (i := 1) rfl) rfl (val := .ref (gA g 1)) rfl dX5_seed_1 ?_
  refine r_get C hP 1 2 (Nat.lt_of_lt_of_le (by decide) hn) rfl (by decide) rfl hi2 7 (by decide) (List.mem_of_getElem? (i := 2) rfl) rfl (val := .int (v.1 1 7)) rfl dX5_seed_4 ?_
  refine lv_topE (v.1 54 2) ((scr_rd (i := 2) (sam_rfl v).1 (sl_k rfl) (by decide)).trans (agr_lo (agr_symm hA) (by decide))) ?_
  refine lv_istore_n (lv' := [(2, .int (v.1 54 2)), (0, .ref (gA g 0)), (1, .int x)]) C.1.1 C.1.2.1 dX5_seed_7 rfl hl (by decide) rfl (fun ls hl => ?_)
  refine lv_aload_n C.1.1 C.1.2.1 dX5_seed_8 rfl (lv_at hl 1 rfl) ?_
  refine r_get C hP 0 5 (Nat.lt_of_lt_of_le (by decide) hn) rfl (by decide) rfl hi5 0 (by decide) (List.mem_of_getElem? (i := 1) rfl) rfl (val := .ref (gA g 1)) rfl dX5_seed_9 ?_
  refine lv_iload_n C.1.1 C.1.2.1 dX5_seed_12 rfl (lv_at hl 2 rfl) ?_
  refine r_put C hP hS 1 2 (Nat.lt_of_lt_of_le (by decide) hn) rfl (by decide) rfl hi2 tyX2 tyX2_ok nmX2 7 (by decide) (List.mem_of_getElem? (i := 2) rfl) rfl rfl rfl rfl rfl (Nat.le_of_ble_eq_true rfl) dX5_seed_13 (fun H locs hP hS => ?_)
  rw [show up v 1 7 x = stW v 1 (upd (stR v 1) 2 x) from st_up0 (i := 2) (sl_k rfl) (by decide)] at hP
  refine lv_iload_n C.1.1 C.1.2.1 dX5_seed_16 rfl (lv_at hl 0 rfl) ?_
  have e54_2 : (stW v 1 (upd (stR v 1) 2 x)).1 54 = v.1 54 := (st_far (by decide))
  exact t_P C rfl hP hS (ps_to (show seedM (stW v 1 (upd (stR v 1) 2 x)) x = (v.1 54 2, upw (stW v 1 (upd (stR v 1) 2 x)) 54 (upd (v.1 54) 2 x)) from by simp only [seedM, nM_of e54_2 hM, e54_2, up]) rfl (Rl_row hR (okC_upd hC (by decide) (Or.inl rfl)) (agr_upd hA rfl))) (rsc_trans (rsc_rfl v) (rsc_st _ _ (by decide))) dX5_seed_17

abbrev rmX5_hold : Room := { frames := 2, cells := 0, slots := 0, locals := 44 }
set_option maxHeartbeats 4000000 in
set_option maxRecDepth 100000 in
theorem kX5_hold (l : Launch) (g : GG) (n : Nat) (v : SV) (x y : Int32) (N : Nat) (hR : Rl v N) : Met l yX5_hold wsX5_hold rmX5_hold (PW g n v [.ref (gA g 0), .int x, .int y]) (QP g n v (fun u => holdPM u x y)) 0 0 (wA g n) := by
  refine Met.begin RX5 rfl (by decide) rfl (Nat.le_of_ble_eq_true rfl) ?_
  intro p e s m args below meth c ls ha C hP hS hl
  have hn : 64 ≤ n := C.2.1.1.2.1
  have hi2 : ∀ w ∈ u_ws RX2 TX2 11, w ∈ wsX5_hold := by decide +kernel
  have hi5 : ∀ w ∈ u_ws RX5 TX5 8, w ∈ wsX5_hold := by decide +kernel
  have hl : lv_has ls 3 [(0, .ref (gA g 0)), (1, .int x), (2, .int y)] := hl
  have hC := hR.1.1
  have hA := hR.1.2
  have h8 := hC.1
  have hD : okC (v.1 54) N := okC_agr (agr_symm hA) hC
  have hM := okC_M hD
  refine lv_iload_n C.1.1 C.1.2.1 dX5_hold_0 rfl (lv_at hl 1 rfl) ?_
  refine a_B hS (run_S C hP hS hl.1 [.int x] (kX5_isSpot l g n v x) gX5_hold_X5_isSpot hdX5_isSpot rfl ⟨rfl, rfl⟩ ⟨Nat.le_of_ble_eq_true rfl, Nat.le_of_ble_eq_true rfl⟩ rfl [] rfl (Nat.le_of_ble_eq_true rfl) dX5_hold_1 ⟨Nat.zero_le _, Nat.zero_le _⟩) (fun b_1 H locs hP hS => ?_) (fun b_1 H locs hP hS => ?_)
  · skip
    have kb_1 := b_1
    obtain ⟨jx, hjx, rfl⟩ := b_1
    refine lv_if_eq (tgt := 23) C.1.1 C.1.2.1 dX5_hold_4 (by decide) (fun c_2 => absurd c_2 (by decide)) (fun _ => ?_)
    refine lv_iload_n C.1.1 C.1.2.1 dX5_hold_7 rfl (lv_at hl 2 rfl) ?_
    refine lv_iconst (v := (-1)) C.1.1 C.1.2.1 dX5_hold_8 rfl ?_
    refine lv_icmp_eq (tgt := 30) C.1.1 C.1.2.1 dX5_hold_9 (by decide) (fun c_3 => ?_) (fun c_3 => ?_)
    · skip
      subst c_3
      refine lv_aload_n C.1.1 C.1.2.1 dX5_hold_30 rfl (lv_at hl 0 rfl) ?_
      refine r_get C hP 0 5 (Nat.lt_of_lt_of_le (by decide) hn) rfl (by decide) rfl hi5 0 (by decide) (List.mem_of_getElem? (i := 1) rfl) rfl (val := .ref (gA g 1)) rfl dX5_hold_31 ?_
      refine r_get C hP 1 2 (Nat.lt_of_lt_of_le (by decide) hn) rfl (by decide) rfl hi2 10 (by decide) (List.mem_of_getElem? (i := 3) rfl) rfl (val := .ref (gA g 5)) rfl dX5_hold_34 ?_
      refine lv_iload_n C.1.1 C.1.2.1 dX5_hold_37 rfl (lv_at hl 1 rfl) ?_
      refine lv_iload_n C.1.1 C.1.2.1 dX5_hold_38 rfl (lv_at hl 2 rfl) ?_
      refine r_iast C hP hS 5 (Nat.lt_of_lt_of_le (by decide) hn) rfl jx rfl (N := 10) rfl (by decide) (by omega) dX5_hold_39 (fun H locs hP hS => ?_)
      rw [show up v 5 jx (-1) = stW v 1 (upd (stR v 1) (73 + jx) ((-1) + 1)) from st_up0S (i := 73 + jx) (sl_4 (by omega)) (by omega)] at hP
      refine lv_iconst (v := 1) C.1.1 C.1.2.1 dX5_hold_40 rfl ?_
      have e54_4 : (stW v 1 (upd (stR v 1) (73 + jx) ((-1) + 1))).1 54 = v.1 54 := (st_far (by decide))
      exact t_P C rfl hP hS (ps_to (show holdPM (stW v 1 (upd (stR v 1) (73 + jx) ((-1) + 1))) (nI jx) (-1) = (1, upw (stW v 1 (upd (stR v 1) (73 + jx) ((-1) + 1))) 54 (upd (v.1 54) (73 + jx) ((-1) + 1))) from by simp only [holdPM, nM_of e54_4 hM, e54_4, cif_pos kb_1, tn_nI (show jx < 2 ^ 31 by omega), cif_pos ((hold_iff h8).mpr (Or.inl rfl)), up]) rfl (Rl_row hR (okC_upd hC (by omega) (Or.inr ⟨0, by rw [tp_spot]; omega, by decide⟩)) (agr_upd hA rfl))) (rsc_trans (rsc_rfl v) (rsc_st _ _ (by decide))) dX5_hold_41
    · skip
      refine lv_aload_n C.1.1 C.1.2.1 dX5_hold_12 rfl (lv_at hl 0 rfl) ?_
      refine r_get C hP 0 5 (Nat.lt_of_lt_of_le (by decide) hn) rfl (by decide) rfl hi5 0 (by decide) (List.mem_of_getElem? (i := 1) rfl) rfl (val := .ref (gA g 1)) rfl dX5_hold_13 ?_
      refine lv_iload_n C.1.1 C.1.2.1 dX5_hold_16 rfl (lv_at hl 2 rfl) ?_
      refine a_B hS (run_V C hP hS hl.1 1 2 (Nat.lt_of_lt_of_le (by decide) hn) rfl (by decide) rfl [.int y] (kX2_has l g n v y v 1 (stR v 1) N (Or.inl rfl) (scr_self (sam_rfl v).1) hC) gX5_hold_X2_has rfl hdX2_has rfl ⟨rfl, rfl⟩ ⟨Nat.le_of_ble_eq_true rfl, Nat.le_of_ble_eq_true rfl⟩ rfl [] rfl (Nat.le_of_ble_eq_true rfl) dX5_hold_17 ⟨Nat.zero_le _, Nat.zero_le _⟩) (fun b_5 H locs hP hS => ?_) (fun b_5 H locs hP hS => ?_)
      · skip
        have kb_5 := b_5
        obtain ⟨jy, hjy, rfl⟩ := b_5
        refine lv_if_ne (tgt := 30) C.1.1 C.1.2.1 dX5_hold_20 (by decide) (fun _ => ?_) (fun c_6 => absurd c_6 (by decide))
        refine lv_aload_n C.1.1 C.1.2.1 dX5_hold_30 rfl (lv_at hl 0 rfl) ?_
        refine r_get C hP 0 5 (Nat.lt_of_lt_of_le (by decide) hn) rfl (by decide) rfl hi5 0 (by decide) (List.mem_of_getElem? (i := 1) rfl) rfl (val := .ref (gA g 1)) rfl dX5_hold_31 ?_
        refine r_get C hP 1 2 (Nat.lt_of_lt_of_le (by decide) hn) rfl (by decide) rfl hi2 10 (by decide) (List.mem_of_getElem? (i := 3) rfl) rfl (val := .ref (gA g 5)) rfl dX5_hold_34 ?_
        refine lv_iload_n C.1.1 C.1.2.1 dX5_hold_37 rfl (lv_at hl 1 rfl) ?_
        refine lv_iload_n C.1.1 C.1.2.1 dX5_hold_38 rfl (lv_at hl 2 rfl) ?_
        refine r_iast C hP hS 5 (Nat.lt_of_lt_of_le (by decide) hn) rfl jx rfl (N := 10) rfl (by decide) (by omega) dX5_hold_39 (fun H locs hP hS => ?_)
        rw [show up v 5 jx (nI jy) = stW v 1 (upd (stR v 1) (73 + jx) ((nI jy) + 1)) from st_up0S (i := 73 + jx) (sl_4 (by omega)) (by omega)] at hP
        refine lv_iconst (v := 1) C.1.1 C.1.2.1 dX5_hold_40 rfl ?_
        have e54_7 : (stW v 1 (upd (stR v 1) (73 + jx) ((nI jy) + 1))).1 54 = v.1 54 := (st_far (by decide))
        exact t_P C rfl hP hS (ps_to (show holdPM (stW v 1 (upd (stR v 1) (73 + jx) ((nI jy) + 1))) (nI jx) (nI jy) = (1, upw (stW v 1 (upd (stR v 1) (73 + jx) ((nI jy) + 1))) 54 (upd (v.1 54) (73 + jx) (nI jy + 1))) from by simp only [holdPM, nM_of e54_7 hM, e54_7, cif_pos kb_1, cif_pos kb_5, tn_nI (show jx < 2 ^ 31 by omega), tn_nI (show jy < 2 ^ 31 by omega), cif_pos ((hold_iff h8).mpr (Or.inr kb_5)), up]) rfl (Rl_row hR (okC_upd hC (by omega) (Or.inr ⟨jy + 1, by rw [tp_spot]; omega, nI_1 jy⟩)) (agr_upd hA rfl))) (rsc_trans (rsc_rfl v) (rsc_st _ _ (by decide))) dX5_hold_41
      · skip
        refine lv_if_ne (tgt := 30) C.1.1 C.1.2.1 dX5_hold_20 (by decide) (fun c_8 => absurd c_8 (by decide)) (fun _ => ?_)
        refine lv_aload_n C.1.1 C.1.2.1 dX5_hold_23 rfl (lv_at hl 0 rfl) ?_
        refine lv_ldc (v := (-1000001)) C.1.1 C.1.2.1 C.1.2.2.2.1 (C.1.2.2.2.2 _ (List.mem_of_getElem? (i := 2) rfl)) dX5_hold_24 ?_
        refine a_F hS (run_V C hP hS hl.1 0 5 (Nat.lt_of_lt_of_le (by decide) hn) rfl (by decide) rfl [.int (-1000001)] (kX5_finding l g n v 0 (by decide) (-1000001) rfl) gX5_hold_X5_finding rfl hdX5_finding rfl ⟨rfl, rfl⟩ ⟨Nat.le_of_ble_eq_true rfl, Nat.le_of_ble_eq_true rfl⟩ rfl [] rfl (Nat.le_of_ble_eq_true rfl) dX5_hold_26 ⟨Nat.zero_le _, Nat.zero_le _⟩) (fun H locs hP hS => ?_)
        have e54_9 : (fnC v 0).1 54 = v.1 54 := (upw_ne _ _ (by decide))
        exact t_P C rfl hP hS (ps_fd (f := fun u => holdPM u (nI jx) y) hR (sam_rfl v) (by decide) (by simp only [holdPM, nM_of e54_9 hM, e54_9, cif_pos kb_1, tn_nI (show jx < 2 ^ 31 by omega), cif_neg (fun h => ((hold_iff h8).mp h).elim c_3 b_5)]) rfl) (rsc_trans (rsc_rfl v) (rsc_w _ _ (by decide))) dX5_hold_29
  · skip
    refine lv_if_eq (tgt := 23) C.1.1 C.1.2.1 dX5_hold_4 (by decide) (fun _ => ?_) (fun c_10 => absurd c_10 (by decide))
    refine lv_aload_n C.1.1 C.1.2.1 dX5_hold_23 rfl (lv_at hl 0 rfl) ?_
    refine lv_ldc (v := (-1000001)) C.1.1 C.1.2.1 C.1.2.2.2.1 (C.1.2.2.2.2 _ (List.mem_of_getElem? (i := 2) rfl)) dX5_hold_24 ?_
    refine a_F hS (run_V C hP hS hl.1 0 5 (Nat.lt_of_lt_of_le (by decide) hn) rfl (by decide) rfl [.int (-1000001)] (kX5_finding l g n v 0 (by decide) (-1000001) rfl) gX5_hold_X5_finding rfl hdX5_finding rfl ⟨rfl, rfl⟩ ⟨Nat.le_of_ble_eq_true rfl, Nat.le_of_ble_eq_true rfl⟩ rfl [] rfl (Nat.le_of_ble_eq_true rfl) dX5_hold_26 ⟨Nat.zero_le _, Nat.zero_le _⟩) (fun H locs hP hS => ?_)
    have e54_11 : (fnC v 0).1 54 = v.1 54 := (upw_ne _ _ (by decide))
    exact t_P C rfl hP hS (ps_fd (f := fun u => holdPM u x y) hR (sam_rfl v) (by decide) (by simp only [holdPM, nM_of e54_11 hM, e54_11, cif_neg b_1]) rfl) (rsc_trans (rsc_rfl v) (rsc_w _ _ (by decide))) dX5_hold_29

abbrev rmX0_isOf : Room := { frames := 2, cells := 0, slots := 0, locals := 42 }
set_option maxHeartbeats 4000000 in
set_option maxRecDepth 100000 in
theorem kX0_isOf (l : Launch) (g : GG) (n : Nat) (v : SV) (k : Nat) (hk : k < 64) (hk0 : kd k = 0) (q : Nat) (hq : q < 7) (e0 : v.1 k 0 = nI q) (x : Int32) : Met l yX0_isOf wsX0_isOf rmX0_isOf (PW g n v [.ref (gA g k), .int x]) (QB g n (asP x (nI q)) v) 0 0 (wA g n) := by
  refine Met.begin RX0 rfl (by decide) rfl (Nat.le_of_ble_eq_true rfl) ?_
  intro p e s m args below meth c ls ha C hP hS hl
  have hn : 64 ≤ n := C.2.1.1.2.1
  have hi0 : ∀ w ∈ u_ws RX0 TX0 6, w ∈ wsX0_isOf := by decide +kernel
  have hl : lv_has ls 4 [(0, .ref (gA g k)), (1, .int x)] := hl
  have hk1 : k < n := by omega
  refine lv_aload_n C.1.1 C.1.2.1 dX0_isOf_0 rfl (lv_at hl 0 rfl) ?_
  refine r_get C hP k 0 hk1 hk0 (by decide) rfl hi0 0 (by decide) (List.mem_of_getElem? (i := 1) rfl) rfl (val := .int (v.1 k 0)) rfl dX0_isOf_1 ?_
  refine lv_topE (nI q) e0 ?_
  refine lv_istore_n (lv' := [(2, .int (nI q)), (0, .ref (gA g k)), (1, .int x)]) C.1.1 C.1.2.1 dX0_isOf_4 rfl hl (by decide) rfl (fun ls hl => ?_)
  refine lv_iconst (v := 0) C.1.1 C.1.2.1 dX0_isOf_5 rfl ?_
  refine lv_istore_n (lv' := [(3, .int 0), (2, .int (nI q)), (0, .ref (gA g k)), (1, .int x)]) C.1.1 C.1.2.1 dX0_isOf_6 rfl hl (by decide) rfl (fun ls hl => ?_)
  have lp_7 : ∀ (k_7 i : Nat), i ≤ 7 → 7 + 1 ≤ i + k_7 → ∀ (H : Heap) (locs : List Loc) (ls : Array Slot), (∀ t, t < i → ¬ chn (nI q) t = x) → (∀ t, t < i → (0 ≤ chn (nI q) t ∧ chn (nI q) t ≤ 6)) → va_P g.1 vwCl (wl g n v) H → va_S (wA g n) s.heap H locs → lv_has ls 4 [(0, .ref (gA g k)), (1, .int x), (2, .int (chn (nI q) i)), (3, .int (nI i))] → W p l e rmX0_isOf s m args below meth c H locs 0 0 (MQ below (QB g n (asP x (nI q)) v) args s 0 0 (wA g n)) (F0 m 7 ls []) := by
    clear hP hS hl
    intro k_7
    induction k_7 with
    | zero => exact fun i h1 h2 => absurd h2 (by omega)
    | succ k_7 ih_7 =>
      intro i hi_7 hk_7 H locs ls hno hin hP hS hl
      refine lv_iload_n C.1.1 C.1.2.1 dX0_isOf_7 rfl (lv_at hl 3 rfl) ?_
      refine lv_bipush (v := 7) C.1.1 C.1.2.1 dX0_isOf_8 rfl ?_
      refine lv_icmp_ge (tgt := 39) C.1.1 C.1.2.1 dX0_isOf_10 (by decide) (fun c_1 => ?_) (fun c_1 => ?_)
      · rw [show (7 ≤ nI i) = (7 ≤ i) from propext (nI_leI (a := 7) (b := i) (by omega) (by omega))] at c_1
        refine lv_iconst (v := 0) C.1.1 C.1.2.1 dX0_isOf_39 rfl ?_
        exact t_0 C rfl hP hS (of_no hq (by omega) (Or.inl (by omega)) hno) rfl dX0_isOf_40
      · rw [show (7 ≤ nI i) = (7 ≤ i) from propext (nI_leI (a := 7) (b := i) (by omega) (by omega))] at c_1
        refine lv_iload_n C.1.1 C.1.2.1 dX0_isOf_13 rfl (lv_at hl 2 rfl) ?_
        refine a_B hS (run_SN "EmptyBarrow" C hP hS hl.1 [.int (chn (nI q) i)] (kX5_isKind l g n v (chn (nI q) i)) gX0_isOf_X5_isKind_n57 C.2.1.2.2.2.2.2.1 (List.mem_of_getElem? (i := 3) rfl) (List.mem_of_getElem? (i := 2) rfl) hdX5_isKind rfl ⟨rfl, rfl⟩ ⟨Nat.le_of_ble_eq_true rfl, Nat.le_of_ble_eq_true rfl⟩ rfl [] rfl (Nat.le_of_ble_eq_true rfl) dX0_isOf_14 ⟨Nat.zero_le _, Nat.zero_le _⟩) (fun b_2 H locs hP hS => ?_) (fun b_2 H locs hP hS => ?_)
        · skip
          have kb := b_2
          obtain ⟨jo, hjo, ej⟩ := b_2
          rw [ej] at hl
          refine lv_if_eq (tgt := 39) C.1.1 C.1.2.1 dX0_isOf_17 (by decide) (fun c_3 => absurd c_3 (by decide)) (fun _ => ?_)
          refine lv_iload_n C.1.1 C.1.2.1 dX0_isOf_20 rfl (lv_at hl 2 rfl) ?_
          refine lv_iload_n C.1.1 C.1.2.1 dX0_isOf_21 rfl (lv_at hl 1 rfl) ?_
          refine lv_icmp_ne (tgt := 27) C.1.1 C.1.2.1 dX0_isOf_22 (by decide) (fun c_4 => ?_) (fun c_4 => ?_)
          · skip
            refine va_getsN C.1.1 C.1.2.1 C.2.1.2.2.1.2.2.1.1 hS C.1.2.2.2.1 (va_tabs rfl rfl C.2.1.2.2.2.2.2.2.2.2.1) (fun _ h => h) dX0_isOf_27 ?_
            refine lv_iload_n C.1.1 C.1.2.1 dX0_isOf_30 rfl (lv_at hl 2 rfl) ?_
            refine r_tald C hS 7 (by decide) C.2.1.2.2.1.2.2.1.2 jo rfl (by omega) dX0_isOf_31 ?_
            refine lv_istore_n (lv' := [(2, .int (tbA.getD jo 0)), (0, .ref (gA g k)), (1, .int x), (3, .int (nI i))]) C.1.1 C.1.2.1 dX0_isOf_32 rfl hl (by decide) rfl (fun ls hl => ?_)
            refine lv_iinc (v := nI (i + 1)) (lv' := [(3, .int (nI (i + 1))), (2, .int (tbA.getD jo 0)), (0, .ref (gA g k)), (1, .int x)]) C.1.1 C.1.2.1 dX0_isOf_33 hl (k := 3) rfl (nI_1 i) (by decide) rfl (fun ls hl => ?_)
            refine lv_goto (tgt := 7) C.1.1 C.1.2.1 dX0_isOf_36 (by decide) ?_
            exact ih_7 (i + 1) (by omega) (by omega) _ _ _ (fun t ht => if h9 : t < i then hno t h9 else by rw [show t = i by omega, ej]; exact c_4) (fun t ht => if h9 : t < i then hin t h9 else by rw [show t = i by omega]; exact kind_iff.mp kb) hP hS (by rw [show chn (nI q) (i + 1) = tbA.getD jo 0 from by rw [chn, ej, nI_clamp (by omega)]]; exact lv_sub hl [2, 3, 1, 0] rfl)
          · skip
            refine lv_iconst (v := 1) C.1.1 C.1.2.1 dX0_isOf_25 rfl ?_
            exact t_1 C rfl hP hS (by rw [← c_4, ← ej]; exact chn_yes q hq i (by omega) (fun t ht => if h9 : t < i then hin t h9 else by rw [show t = i by omega]; exact kind_iff.mp kb)) rfl dX0_isOf_26
        · skip
          refine lv_if_eq (tgt := 39) C.1.1 C.1.2.1 dX0_isOf_17 (by decide) (fun _ => ?_) (fun c_5 => absurd c_5 (by decide))
          refine lv_iconst (v := 0) C.1.1 C.1.2.1 dX0_isOf_39 rfl ?_
          exact t_0 C rfl hP hS (of_no hq (by omega) (Or.inr (fun h => b_2 (kind_iff.mpr h))) hno) rfl dX0_isOf_40
  exact lp_7 (7 + 1) 0 (Nat.zero_le _) (by omega) _ _ _ (fun t ht => absurd ht (Nat.not_lt_zero t)) (fun t ht => absurd ht (Nat.not_lt_zero t)) hP hS (lv_sub hl [2, 3, 1, 0] rfl)

abbrev rmX5_as : Room := { frames := 3, cells := 0, slots := 0, locals := 65 }
set_option maxHeartbeats 4000000 in
set_option maxRecDepth 100000 in
theorem kX5_as (l : Launch) (g : GG) (n : Nat) (v : SV) (x y : Int32) (N : Nat) (hR : Rl v N) : Met l yX5_as wsX5_as rmX5_as (PW g n v [.ref (gA g 0), .int x, .int y]) (QP g n v (fun u => asM u x y)) 0 0 (wA g n) := by
  refine Met.begin RX5 rfl (by decide) rfl (Nat.le_of_ble_eq_true rfl) ?_
  intro p e s m args below meth c ls ha C hP hS hl
  have hn : 64 ≤ n := C.2.1.1.2.1
  have hi0 : ∀ w ∈ u_ws RX0 TX0 6, w ∈ wsX5_as := by decide +kernel
  have hi2 : ∀ w ∈ u_ws RX2 TX2 11, w ∈ wsX5_as := by decide +kernel
  have hi5 : ∀ w ∈ u_ws RX5 TX5 8, w ∈ wsX5_as := by decide +kernel
  have hl : lv_has ls 4 [(0, .ref (gA g 0)), (1, .int x), (2, .int y)] := hl
  have hC := hR.1.1
  have hA := hR.1.2
  have h8 := hC.1
  have hD : okC (v.1 54) N := okC_agr (agr_symm hA) hC
  have hM := okC_M hD
  refine lv_iload_n C.1.1 C.1.2.1 dX5_as_0 rfl (lv_at hl 1 rfl) ?_
  refine a_B hS (run_S C hP hS hl.1 [.int x] (kX5_isSpot l g n v x) gX5_as_X5_isSpot hdX5_isSpot rfl ⟨rfl, rfl⟩ ⟨Nat.le_of_ble_eq_true rfl, Nat.le_of_ble_eq_true rfl⟩ rfl [] rfl (Nat.le_of_ble_eq_true rfl) dX5_as_1 ⟨Nat.zero_le _, Nat.zero_le _⟩) (fun b_1 H locs hP hS => ?_) (fun b_1 H locs hP hS => ?_)
  · skip
    have kb_1 := b_1
    obtain ⟨jx, hjx, rfl⟩ := b_1
    refine lv_if_eq (tgt := 14) C.1.1 C.1.2.1 dX5_as_4 (by decide) (fun c_2 => absurd c_2 (by decide)) (fun _ => ?_)
    refine lv_iload_n C.1.1 C.1.2.1 dX5_as_7 rfl (lv_at hl 2 rfl) ?_
    refine a_B hS (run_S C hP hS hl.1 [.int y] (kX5_isKind l g n v y) gX5_as_X5_isKind hdX5_isKind rfl ⟨rfl, rfl⟩ ⟨Nat.le_of_ble_eq_true rfl, Nat.le_of_ble_eq_true rfl⟩ rfl [] rfl (Nat.le_of_ble_eq_true rfl) dX5_as_8 ⟨Nat.zero_le _, Nat.zero_le _⟩) (fun b_3 H locs hP hS => ?_) (fun b_3 H locs hP hS => ?_)
    · skip
      have kb_3 := b_3
      obtain ⟨jy, hjy, rfl⟩ := b_3
      refine lv_if_ne (tgt := 21) C.1.1 C.1.2.1 dX5_as_11 (by decide) (fun _ => ?_) (fun c_4 => absurd c_4 (by decide))
      refine lv_aload_n C.1.1 C.1.2.1 dX5_as_21 rfl (lv_at hl 0 rfl) ?_
      refine r_get C hP 0 5 (Nat.lt_of_lt_of_le (by decide) hn) rfl (by decide) rfl hi5 0 (by decide) (List.mem_of_getElem? (i := 2) rfl) rfl (val := .ref (gA g 1)) rfl dX5_as_22 ?_
      refine r_get C hP 1 2 (Nat.lt_of_lt_of_le (by decide) hn) rfl (by decide) rfl hi2 10 (by decide) (List.mem_of_getElem? (i := 3) rfl) rfl (val := .ref (gA g 5)) rfl dX5_as_25 ?_
      refine lv_iload_n C.1.1 C.1.2.1 dX5_as_28 rfl (lv_at hl 1 rfl) ?_
      refine r_iald C hP 5 (Nat.lt_of_lt_of_le (by decide) hn) rfl jx rfl (N := 10) rfl (by decide) (by omega) dX5_as_29 ?_
      refine lv_topE ((v.1 54 (73 + jx)) - 1) ((scr_rs (i := 73 + jx) (sam_rfl v).1 (sl_4 (by omega)) (by omega)).trans (congrArg (fun z => z - 1) ((agr_symm hA) _ (by omega) (Or.inr (Or.inl (by omega)))))) ?_
      obtain ⟨m, hm, em⟩ := hD.2.2 (73 + jx) (by omega) (by omega) (by omega) (Or.inr (Or.inl (by omega)))
      rw [tp_spot] at hm
      by_cases h0 : v.1 54 (73 + jx) = 0
      · skip
        refine lv_topE (-1) (by rw [h0]; rfl) ?_
        refine lv_istore_n (lv' := [(3, .int (-1)), (0, .ref (gA g 0)), (1, .int (nI jx)), (2, .int (nI jy))]) C.1.1 C.1.2.1 dX5_as_30 rfl hl (by decide) rfl (fun ls hl => ?_)
        refine lv_aload_n C.1.1 C.1.2.1 dX5_as_31 rfl (lv_at hl 1 rfl) ?_
        refine r_get C hP 0 5 (Nat.lt_of_lt_of_le (by decide) hn) rfl (by decide) rfl hi5 0 (by decide) (List.mem_of_getElem? (i := 2) rfl) rfl (val := .ref (gA g 1)) rfl dX5_as_32 ?_
        refine lv_iload_n C.1.1 C.1.2.1 dX5_as_35 rfl (lv_at hl 0 rfl) ?_
        refine a_B hS (run_V C hP hS hl.1 1 2 (Nat.lt_of_lt_of_le (by decide) hn) rfl (by decide) rfl [.int (-1)] (kX2_has l g n v (-1) v 1 (stR v 1) N (Or.inl rfl) (scr_self (sam_rfl v).1) hC) gX5_as_X2_has rfl hdX2_has rfl ⟨rfl, rfl⟩ ⟨Nat.le_of_ble_eq_true rfl, Nat.le_of_ble_eq_true rfl⟩ rfl [] rfl (Nat.le_of_ble_eq_true rfl) dX5_as_36 ⟨Nat.zero_le _, Nat.zero_le _⟩) (fun b_5 H locs hP hS => ?_) (fun b_5 H locs hP hS => ?_)
        · skip
          obtain ⟨jj, hjj, ejj⟩ := b_5; exact absurd ejj (fun q => absurd (congrArg Int32.toInt q) (by rw [nI_toInt (by omega), show (-1 : Int32).toInt = -1 from rfl]; omega))
        · skip
          refine lv_if_ne (tgt := 49) C.1.1 C.1.2.1 dX5_as_39 (by decide) (fun c_6 => absurd c_6 (by decide)) (fun _ => ?_)
          refine lv_aload_n C.1.1 C.1.2.1 dX5_as_42 rfl (lv_at hl 1 rfl) ?_
          refine lv_ldc (v := (-1000006)) C.1.1 C.1.2.1 C.1.2.2.2.1 (C.1.2.2.2.2 _ (List.mem_of_getElem? (i := 4) rfl)) dX5_as_43 ?_
          refine a_F hS (run_V C hP hS hl.1 0 5 (Nat.lt_of_lt_of_le (by decide) hn) rfl (by decide) rfl [.int (-1000006)] (kX5_finding l g n v 5 (by decide) (-1000006) rfl) gX5_as_X5_finding rfl hdX5_finding rfl ⟨rfl, rfl⟩ ⟨Nat.le_of_ble_eq_true rfl, Nat.le_of_ble_eq_true rfl⟩ rfl [] rfl (Nat.le_of_ble_eq_true rfl) dX5_as_45 ⟨Nat.zero_le _, Nat.zero_le _⟩) (fun H locs hP hS => ?_)
          have e54_7 : (fnC v 5).1 54 = v.1 54 := (upw_ne _ _ (by decide))
          exact t_P C rfl hP hS (ps_fd (f := fun u => asM u (nI jx) (nI jy)) hR (sam_rfl v) (by decide) (by simp only [asM, nM_of e54_7 hM, e54_7, cif_pos kb_1, cif_pos kb_3, if_pos h0, tn_nI (show jx < 2 ^ 31 by omega), tn_nI (show jy < 2 ^ 31 by omega)]) rfl) (rsc_trans (rsc_rfl v) (rsc_w _ _ (by decide))) dX5_as_48
      obtain ⟨h, rfl⟩ : ∃ h, m = h + 1 := ⟨m - 1, by have : m ≠ 0 := (fun z => h0 (by rw [em, z]; rfl)); omega⟩
      have hh : h < N := by omega
      obtain ⟨q, hq, eq⟩ := okC_R hD hh 0 (by decide)
      have eq1 : v.1 (1 + 5 + h) 0 = nI q := ((six0 hA hh h8) 0 (by decide)).trans eq
      refine lv_topE (nI h) (by rw [em, ← nI_1]; exact i_pm _) ?_
      refine lv_istore_n (lv' := [(3, .int (nI h)), (0, .ref (gA g 0)), (1, .int (nI jx)), (2, .int (nI jy))]) C.1.1 C.1.2.1 dX5_as_30 rfl hl (by decide) rfl (fun ls hl => ?_)
      refine lv_aload_n C.1.1 C.1.2.1 dX5_as_31 rfl (lv_at hl 1 rfl) ?_
      refine r_get C hP 0 5 (Nat.lt_of_lt_of_le (by decide) hn) rfl (by decide) rfl hi5 0 (by decide) (List.mem_of_getElem? (i := 2) rfl) rfl (val := .ref (gA g 1)) rfl dX5_as_32 ?_
      refine lv_iload_n C.1.1 C.1.2.1 dX5_as_35 rfl (lv_at hl 0 rfl) ?_
      refine a_B hS (run_V C hP hS hl.1 1 2 (Nat.lt_of_lt_of_le (by decide) hn) rfl (by decide) rfl [.int (nI h)] (kX2_has l g n v (nI h) v 1 (stR v 1) N (Or.inl rfl) (scr_self (sam_rfl v).1) hC) gX5_as_X2_has rfl hdX2_has rfl ⟨rfl, rfl⟩ ⟨Nat.le_of_ble_eq_true rfl, Nat.le_of_ble_eq_true rfl⟩ rfl [] rfl (Nat.le_of_ble_eq_true rfl) dX5_as_36 ⟨Nat.zero_le _, Nat.zero_le _⟩) (fun b_8 H locs hP hS => ?_) (fun b_8 H locs hP hS => ?_)
      · skip
        refine lv_if_ne (tgt := 49) C.1.1 C.1.2.1 dX5_as_39 (by decide) (fun _ => ?_) (fun c_9 => absurd c_9 (by decide))
        refine lv_aload_n C.1.1 C.1.2.1 dX5_as_49 rfl (lv_at hl 1 rfl) ?_
        refine r_get C hP 0 5 (Nat.lt_of_lt_of_le (by decide) hn) rfl (by decide) rfl hi5 0 (by decide) (List.mem_of_getElem? (i := 2) rfl) rfl (val := .ref (gA g 1)) rfl dX5_as_50 ?_
        refine r_get C hP 1 2 (Nat.lt_of_lt_of_le (by decide) hn) rfl (by decide) rfl hi2 9 (by decide) (List.mem_of_getElem? (i := 5) rfl) rfl (val := .ref (gA g 4)) rfl dX5_as_53 ?_
        refine lv_iload_n C.1.1 C.1.2.1 dX5_as_56 rfl (lv_at hl 0 rfl) ?_
        refine r_aald C hP 4 (Nat.lt_of_lt_of_le (by decide) hn) rfl h rfl (by omega) dX5_as_57 ?_
        refine lv_iload_n C.1.1 C.1.2.1 dX5_as_58 rfl (lv_at hl 3 rfl) ?_
        refine a_B hS (run_V C hP hS hl.1 (1 + 5 + h) 0 (by omega) (kd_stR 1 (Or.inl rfl) h (by omega)) (by decide) rfl [.int (nI jy)] (kX0_isOf l g n v (1 + 5 + h) (by omega) (kd_stR 1 (Or.inl rfl) h (by omega)) q hq eq1 (nI jy)) gX5_as_X0_isOf rfl hdX0_isOf rfl ⟨rfl, rfl⟩ ⟨Nat.le_of_ble_eq_true rfl, Nat.le_of_ble_eq_true rfl⟩ rfl [] rfl (Nat.le_of_ble_eq_true rfl) dX5_as_59 ⟨Nat.zero_le _, Nat.zero_le _⟩) (fun b_10 H locs hP hS => ?_) (fun b_10 H locs hP hS => ?_)
        · skip
          refine lv_if_ne (tgt := 72) C.1.1 C.1.2.1 dX5_as_62 (by decide) (fun _ => ?_) (fun c_11 => absurd c_11 (by decide))
          refine lv_iload_n C.1.1 C.1.2.1 dX5_as_72 rfl (lv_at hl 0 rfl) ?_
          exact t_P C rfl hP hS (ps_eq (u := v) hR (show asM v (nI jx) (nI jy) = (nI (h + 1) - 1, v) from by simp only [asM, nM_eq hM, cif_pos kb_1, cif_pos kb_3, if_neg h0, tn_nI (show jx < 2 ^ 31 by omega), tn_nI (show jy < 2 ^ 31 by omega), em, if_neg (show ¬ nI (h + 1) = 0 from em ▸ h0), tn_nI (show h + 1 < 2 ^ 31 by omega), Nat.add_sub_cancel, eq, cif_pos b_10]) (by rw [← nI_1]; exact (i_pm _).symm) (sam_rfl v)) (rsc_rfl v) dX5_as_73
        · skip
          refine lv_if_ne (tgt := 72) C.1.1 C.1.2.1 dX5_as_62 (by decide) (fun c_12 => absurd c_12 (by decide)) (fun _ => ?_)
          refine lv_aload_n C.1.1 C.1.2.1 dX5_as_65 rfl (lv_at hl 1 rfl) ?_
          refine lv_ldc (v := (-1000003)) C.1.1 C.1.2.1 C.1.2.2.2.1 (C.1.2.2.2.2 _ (List.mem_of_getElem? (i := 6) rfl)) dX5_as_66 ?_
          refine a_F hS (run_V C hP hS hl.1 0 5 (Nat.lt_of_lt_of_le (by decide) hn) rfl (by decide) rfl [.int (-1000003)] (kX5_finding l g n v 2 (by decide) (-1000003) rfl) gX5_as_X5_finding rfl hdX5_finding rfl ⟨rfl, rfl⟩ ⟨Nat.le_of_ble_eq_true rfl, Nat.le_of_ble_eq_true rfl⟩ rfl [] rfl (Nat.le_of_ble_eq_true rfl) dX5_as_68 ⟨Nat.zero_le _, Nat.zero_le _⟩) (fun H locs hP hS => ?_)
          have e54_13 : (fnC v 2).1 54 = v.1 54 := (upw_ne _ _ (by decide))
          exact t_P C rfl hP hS (ps_fd (f := fun u => asM u (nI jx) (nI jy)) hR (sam_rfl v) (by decide) (by simp only [asM, nM_of e54_13 hM, e54_13, cif_pos kb_1, cif_pos kb_3, if_neg h0, tn_nI (show jx < 2 ^ 31 by omega), tn_nI (show jy < 2 ^ 31 by omega), em, if_neg (show ¬ nI (h + 1) = 0 from em ▸ h0), tn_nI (show h + 1 < 2 ^ 31 by omega), Nat.add_sub_cancel, eq, cif_neg b_10]) rfl) (rsc_trans (rsc_rfl v) (rsc_w _ _ (by decide))) dX5_as_71
      · skip
        exact absurd ⟨h, hh, rfl⟩ b_8
    · skip
      refine lv_if_ne (tgt := 21) C.1.1 C.1.2.1 dX5_as_11 (by decide) (fun c_14 => absurd c_14 (by decide)) (fun _ => ?_)
      refine lv_aload_n C.1.1 C.1.2.1 dX5_as_14 rfl (lv_at hl 0 rfl) ?_
      refine lv_ldc (v := (-1000001)) C.1.1 C.1.2.1 C.1.2.2.2.1 (C.1.2.2.2.2 _ (List.mem_of_getElem? (i := 1) rfl)) dX5_as_15 ?_
      refine a_F hS (run_V C hP hS hl.1 0 5 (Nat.lt_of_lt_of_le (by decide) hn) rfl (by decide) rfl [.int (-1000001)] (kX5_finding l g n v 0 (by decide) (-1000001) rfl) gX5_as_X5_finding rfl hdX5_finding rfl ⟨rfl, rfl⟩ ⟨Nat.le_of_ble_eq_true rfl, Nat.le_of_ble_eq_true rfl⟩ rfl [] rfl (Nat.le_of_ble_eq_true rfl) dX5_as_17 ⟨Nat.zero_le _, Nat.zero_le _⟩) (fun H locs hP hS => ?_)
      have e54_15 : (fnC v 0).1 54 = v.1 54 := (upw_ne _ _ (by decide))
      exact t_P C rfl hP hS (ps_fd (f := fun u => asM u (nI jx) y) hR (sam_rfl v) (by decide) (by simp only [asM, nM_of e54_15 hM, e54_15, cif_pos kb_1, cif_neg b_3, tn_nI (show jx < 2 ^ 31 by omega)]) rfl) (rsc_trans (rsc_rfl v) (rsc_w _ _ (by decide))) dX5_as_20
  · skip
    refine lv_if_eq (tgt := 14) C.1.1 C.1.2.1 dX5_as_4 (by decide) (fun _ => ?_) (fun c_16 => absurd c_16 (by decide))
    refine lv_aload_n C.1.1 C.1.2.1 dX5_as_14 rfl (lv_at hl 0 rfl) ?_
    refine lv_ldc (v := (-1000001)) C.1.1 C.1.2.1 C.1.2.2.2.1 (C.1.2.2.2.2 _ (List.mem_of_getElem? (i := 1) rfl)) dX5_as_15 ?_
    refine a_F hS (run_V C hP hS hl.1 0 5 (Nat.lt_of_lt_of_le (by decide) hn) rfl (by decide) rfl [.int (-1000001)] (kX5_finding l g n v 0 (by decide) (-1000001) rfl) gX5_as_X5_finding rfl hdX5_finding rfl ⟨rfl, rfl⟩ ⟨Nat.le_of_ble_eq_true rfl, Nat.le_of_ble_eq_true rfl⟩ rfl [] rfl (Nat.le_of_ble_eq_true rfl) dX5_as_17 ⟨Nat.zero_le _, Nat.zero_le _⟩) (fun H locs hP hS => ?_)
    have e54_17 : (fnC v 0).1 54 = v.1 54 := (upw_ne _ _ (by decide))
    exact t_P C rfl hP hS (ps_fd (f := fun u => asM u x y) hR (sam_rfl v) (by decide) (by simp only [asM, nM_of e54_17 hM, e54_17, cif_neg b_1]) rfl) (rsc_trans (rsc_rfl v) (rsc_w _ _ (by decide))) dX5_as_20

abbrev rmX3_clear : Room := { frames := 0, cells := 0, slots := 0, locals := 0 }
set_option maxHeartbeats 4000000 in
set_option maxRecDepth 100000 in
theorem kX3_clear (l : Launch) (g : GG) (n : Nat) (v : SV)  : Met l yX3_clear wsX3_clear rmX3_clear (PW g n v [.ref (gA g 41)]) (QG g n (up v 41 1 0)) 0 0 (wA g n) := by
  refine Met.begin RX3 rfl (by decide) rfl (Nat.le_of_ble_eq_true rfl) ?_
  intro p e s m args below meth c ls ha C hP hS hl
  have hn : 64 ≤ n := C.2.1.1.2.1
  have hi3 : ∀ w ∈ u_ws RX3 TX3 6, w ∈ wsX3_clear := by decide +kernel
  have hl : lv_has ls 1 [(0, .ref (gA g 41))] := hl
  refine lv_aload_n C.1.1 C.1.2.1 dX3_clear_0 rfl (lv_at hl 0 rfl) ?_
  refine lv_iconst (v := 0) C.1.1 C.1.2.1 dX3_clear_1 rfl ?_
  refine r_put C hP hS 41 3 (Nat.lt_of_lt_of_le (by decide) hn) rfl (by decide) rfl hi3 tyX3 tyX3_ok nmX3 1 (by decide) (List.mem_of_getElem? (i := 1) rfl) rfl rfl rfl rfl rfl (Nat.le_of_ble_eq_true rfl) dX3_clear_2 (fun H locs hP hS => ?_)
  exact t_G C rfl hP hS rfl dX3_clear_5

abbrev rmX5_wipe : Room := { frames := 1, cells := 0, slots := 0, locals := 20 }
set_option maxHeartbeats 4000000 in
set_option maxRecDepth 100000 in
theorem kX5_wipe (l : Launch) (g : GG) (n : Nat) (v : SV) (N : Nat) (hR : Rl v N) : Met l yX5_wipe wsX5_wipe rmX5_wipe (PW g n v [.ref (gA g 0)]) (QP g n v (fun u => wipeM u)) 0 0 (wA g n) := by
  refine Met.begin RX5 rfl (by decide) rfl (Nat.le_of_ble_eq_true rfl) ?_
  intro p e s m args below meth c ls ha C hP hS hl
  have hn : 64 ≤ n := C.2.1.1.2.1
  have hi3 : ∀ w ∈ u_ws RX3 TX3 6, w ∈ wsX5_wipe := by decide +kernel
  have hi5 : ∀ w ∈ u_ws RX5 TX5 8, w ∈ wsX5_wipe := by decide +kernel
  have hl : lv_has ls 2 [(0, .ref (gA g 0))] := hl
  have hC := hR.1.1
  have hA := hR.1.2
  have h8 := hC.1
  have hD : okC (v.1 54) N := okC_agr (agr_symm hA) hC
  have hM := okC_M hD
  obtain ⟨T, hT, hT1, hT2, hT3⟩ := hR.2.2.1
  refine lv_aload_n C.1.1 C.1.2.1 dX5_wipe_0 rfl (lv_at hl 0 rfl) ?_
  refine r_get C hP 0 5 (Nat.lt_of_lt_of_le (by decide) hn) rfl (by decide) rfl hi5 5 (by decide) (List.mem_of_getElem? (i := 1) rfl) rfl (val := .ref (gA g 41)) rfl dX5_wipe_1 ?_
  refine r_get C hP 41 3 (Nat.lt_of_lt_of_le (by decide) hn) rfl (by decide) rfl hi3 1 (by decide) (List.mem_of_getElem? (i := 2) rfl) rfl (val := .int (v.1 41 1)) rfl dX5_wipe_4 ?_
  refine lv_istore_n (lv' := [(1, .int (v.1 41 1)), (0, .ref (gA g 0))]) C.1.1 C.1.2.1 dX5_wipe_7 rfl hl (by decide) rfl (fun ls hl => ?_)
  refine lv_aload_n C.1.1 C.1.2.1 dX5_wipe_8 rfl (lv_at hl 1 rfl) ?_
  refine r_get C hP 0 5 (Nat.lt_of_lt_of_le (by decide) hn) rfl (by decide) rfl hi5 5 (by decide) (List.mem_of_getElem? (i := 1) rfl) rfl (val := .ref (gA g 41)) rfl dX5_wipe_9 ?_
  refine a_G hS (run_V C hP hS hl.1 41 3 (Nat.lt_of_lt_of_le (by decide) hn) rfl (by decide) rfl [] (kX3_clear l g n v ) gX5_wipe_X3_clear rfl hdX3_clear rfl ⟨rfl, rfl⟩ ⟨Nat.le_of_ble_eq_true rfl, Nat.le_of_ble_eq_true rfl⟩ rfl [] rfl (Nat.le_of_ble_eq_true rfl) dX5_wipe_12 ⟨Nat.zero_le _, Nat.zero_le _⟩) (fun H locs hP hS => ?_)
  refine lv_iload_n C.1.1 C.1.2.1 dX5_wipe_15 rfl (lv_at hl 0 rfl) ?_
  exact t_P C rfl hP hS (ps_to (show wipeM (up v 41 1 0) = (v.1 53 7, up (up v 41 1 0) 53 7 0) from by rw [wipeM, upw_ne _ _ (show 53 ≠ 41 by decide)]) (hT2.trans hT1.symm) (Rl_wipe hR)) (rsc_trans (rsc_rfl v) (rsc_w _ _ (by omega))) dX5_wipe_16

abbrev rmX5_image : Room := { frames := 2, cells := 0, slots := 0, locals := 82 }
set_option maxHeartbeats 4000000 in
set_option maxRecDepth 100000 in
theorem kX5_image (l : Launch) (g : GG) (n : Nat) (v : SV) (N : Nat) (hR : Rl v N) : Met l yX5_image wsX5_image rmX5_image (PW g n v [.ref (gA g 0)]) (QP g n v (fun u => imageM u)) 0 0 (wA g n) := by
  refine Met.begin RX5 rfl (by decide) rfl (Nat.le_of_ble_eq_true rfl) ?_
  intro p e s m args below meth c ls ha C hP hS hl
  have hn : 64 ≤ n := C.2.1.1.2.1
  have hi0 : ∀ w ∈ u_ws RX0 TX0 6, w ∈ wsX5_image := by decide +kernel
  have hi2 : ∀ w ∈ u_ws RX2 TX2 11, w ∈ wsX5_image := by decide +kernel
  have hi5 : ∀ w ∈ u_ws RX5 TX5 8, w ∈ wsX5_image := by decide +kernel
  have hl : lv_has ls 1 [(0, .ref (gA g 0))] := hl
  have hC := hR.1.1
  have hA := hR.1.2
  have h8 := hC.1
  have hD : okC (v.1 54) N := okC_agr (agr_symm hA) hC
  have hM := okC_M hD
  refine lv_aload_n C.1.1 C.1.2.1 dX5_image_0 rfl (lv_at hl 0 rfl) ?_
  refine r_get C hP 0 5 (Nat.lt_of_lt_of_le (by decide) hn) rfl (by decide) rfl hi5 2 (by decide) (List.mem_of_getElem? (i := 1) rfl) rfl (val := .ref (gA g 27)) rfl dX5_image_1 ?_
  refine lv_aload_n C.1.1 C.1.2.1 dX5_image_4 rfl (lv_at hl 0 rfl) ?_
  refine r_get C hP 0 5 (Nat.lt_of_lt_of_le (by decide) hn) rfl (by decide) rfl hi5 0 (by decide) (List.mem_of_getElem? (i := 2) rfl) rfl (val := .ref (gA g 1)) rfl dX5_image_5 ?_
  refine a_G hS (run_V C hP hS hl.1 27 2 (Nat.lt_of_lt_of_le (by decide) hn) rfl (by decide) rfl [.ref (gA g 1)] (kX2_become l g n v v 27 (stR v 27) 1 N (Or.inr (Or.inr rfl)) (Or.inl rfl) (by decide) (st_self _ 27).symm hC) gX5_image_X2_become rfl hdX2_become rfl ⟨rfl, rfl⟩ ⟨Nat.le_of_ble_eq_true rfl, Nat.le_of_ble_eq_true rfl⟩ rfl [] rfl (Nat.le_of_ble_eq_true rfl) dX5_image_8 ⟨Nat.zero_le _, Nat.zero_le _⟩) (fun H locs hP hS => ?_)
  refine lv_aload_n C.1.1 C.1.2.1 dX5_image_11 rfl (lv_at hl 0 rfl) ?_
  refine lv_iconst (v := 1) C.1.1 C.1.2.1 dX5_image_12 rfl ?_
  refine r_put C hP hS 0 5 (Nat.lt_of_lt_of_le (by decide) hn) rfl (by decide) rfl hi5 tyX5 tyX5_ok nmX5 3 (by decide) (List.mem_of_getElem? (i := 3) rfl) rfl rfl rfl rfl rfl (Nat.le_of_ble_eq_true rfl) dX5_image_13 (fun H locs hP hS => ?_)
  refine lv_iconst (v := 1) C.1.1 C.1.2.1 dX5_image_16 rfl ?_
  exact t_P C rfl hP hS (ps_to (show imageM (up (stW v 27 (becM (stR v 27) (stR v 1) N)) 0 3 1) = (1, up (upw (up (stW v 27 (becM (stR v 27) (stR v 1) N)) 0 3 1) 57 (cpyM (v.1 54) (v.1 57) 83)) 53 4 1) from by rw [imageM, show (up (stW v 27 (becM (stR v 27) (stR v 1) N)) 0 3 1).1 54 = v.1 54 from (upw_ne _ _ (by decide)).trans (st_far (by decide)), show (up (stW v 27 (becM (stR v 27) (stR v 1) N)) 0 3 1).1 57 = v.1 57 from (upw_ne _ _ (by decide)).trans (st_far (by decide))]) rfl (Rl_image hR)) (rsc_trans (rsc_trans (rsc_rfl v) (rsc_st _ _ (by decide))) (rsc_w _ _ (by omega))) dX5_image_17

abbrev rmX5_undo : Room := { frames := 2, cells := 0, slots := 0, locals := 82 }
set_option maxHeartbeats 4000000 in
set_option maxRecDepth 100000 in
theorem kX5_undo (l : Launch) (g : GG) (n : Nat) (v : SV) (N : Nat) (hR : Rl v N) : Met l yX5_undo wsX5_undo rmX5_undo (PW g n v [.ref (gA g 0)]) (QP g n v (fun u => undoM u)) 0 0 (wA g n) := by
  refine Met.begin RX5 rfl (by decide) rfl (Nat.le_of_ble_eq_true rfl) ?_
  intro p e s m args below meth c ls ha C hP hS hl
  have hn : 64 ≤ n := C.2.1.1.2.1
  have hi0 : ∀ w ∈ u_ws RX0 TX0 6, w ∈ wsX5_undo := by decide +kernel
  have hi2 : ∀ w ∈ u_ws RX2 TX2 11, w ∈ wsX5_undo := by decide +kernel
  have hi5 : ∀ w ∈ u_ws RX5 TX5 8, w ∈ wsX5_undo := by decide +kernel
  have hl : lv_has ls 1 [(0, .ref (gA g 0))] := hl
  have hC := hR.1.1
  have hA := hR.1.2
  have h8 := hC.1
  have hD : okC (v.1 54) N := okC_agr (agr_symm hA) hC
  have hM := okC_M hD
  refine lv_aload_n C.1.1 C.1.2.1 dX5_undo_0 rfl (lv_at hl 0 rfl) ?_
  refine r_get C hP 0 5 (Nat.lt_of_lt_of_le (by decide) hn) rfl (by decide) rfl hi5 3 (by decide) (List.mem_of_getElem? (i := 1) rfl) rfl (val := .int (v.1 0 3)) rfl dX5_undo_1 ?_
  refine lv_if_ne (tgt := 14) C.1.1 C.1.2.1 dX5_undo_4 (by decide) (fun c_1 => ?_) (fun c_1 => ?_)
  · skip
    obtain ⟨M, hM1, hM2⟩ := hR.2.2.2.2.2.2 (hR.2.2.2.2.2.1.resolve_left c_1)
    have kd1 : agr M (cpyM (v.1 57) (v.1 54) 83) (becM (stR v 1) (stR v 27) M) := fun j h1 h2 => (if_pos h1).trans ((hM2 j h1 h2).trans (bec_agr _ _ _ j h1 h2))
    refine lv_aload_n C.1.1 C.1.2.1 dX5_undo_14 rfl (lv_at hl 0 rfl) ?_
    refine r_get C hP 0 5 (Nat.lt_of_lt_of_le (by decide) hn) rfl (by decide) rfl hi5 0 (by decide) (List.mem_of_getElem? (i := 3) rfl) rfl (val := .ref (gA g 1)) rfl dX5_undo_15 ?_
    refine lv_aload_n C.1.1 C.1.2.1 dX5_undo_18 rfl (lv_at hl 0 rfl) ?_
    refine r_get C hP 0 5 (Nat.lt_of_lt_of_le (by decide) hn) rfl (by decide) rfl hi5 2 (by decide) (List.mem_of_getElem? (i := 4) rfl) rfl (val := .ref (gA g 27)) rfl dX5_undo_19 ?_
    refine a_G hS (run_V C hP hS hl.1 1 2 (Nat.lt_of_lt_of_le (by decide) hn) rfl (by decide) rfl [.ref (gA g 27)] (kX2_become l g n v v 1 (stR v 1) 27 M (Or.inl rfl) (Or.inr (Or.inr rfl)) (by decide) (st_self _ 1).symm hM1) gX5_undo_X2_become rfl hdX2_become rfl ⟨rfl, rfl⟩ ⟨Nat.le_of_ble_eq_true rfl, Nat.le_of_ble_eq_true rfl⟩ rfl [] rfl (Nat.le_of_ble_eq_true rfl) dX5_undo_22 ⟨Nat.zero_le _, Nat.zero_le _⟩) (fun H locs hP hS => ?_)
    refine lv_aload_n C.1.1 C.1.2.1 dX5_undo_25 rfl (lv_at hl 0 rfl) ?_
    refine r_get C hP 0 5 (Nat.lt_of_lt_of_le (by decide) hn) rfl (by decide) rfl hi5 0 (by decide) (List.mem_of_getElem? (i := 3) rfl) rfl (val := .ref (gA g 1)) rfl dX5_undo_26 ?_
    refine r_get C hP 1 2 (Nat.lt_of_lt_of_le (by decide) hn) rfl (by decide) rfl hi2 6 (by decide) (List.mem_of_getElem? (i := 5) rfl) rfl (val := .int ((stW v 1 (becM (stR v 1) (stR v 27) M)).1 1 6)) rfl dX5_undo_29 ?_
    refine lv_topE ((becM (stR v 1) (stR v 27) M) 1) ((st_at (i := 1) (sl_k rfl) (by decide)).trans rfl) ?_
    exact t_P C rfl hP hS (ps_to (show undoM (stW v 1 (becM (stR v 1) (stR v 27) M)) = (cpyM (v.1 57) (v.1 54) 83 1, upw (stW v 1 (becM (stR v 1) (stR v 27) M)) 54 (cpyM (v.1 57) (v.1 54) 83)) from by rw [undoM, if_neg (show ¬ (stW v 1 (becM (stR v 1) (stR v 27) M)).1 53 4 = 0 from fun q => c_1 (hR.2.2.2.2.1.trans ((congrFun (st_far (by decide)) _).symm.trans q))), show (stW v 1 (becM (stR v 1) (stR v 27) M)).1 54 = v.1 54 from st_far (by decide), show (stW v 1 (becM (stR v 1) (stR v 27) M)).1 57 = v.1 57 from st_far (by decide)]) (kd1 1 (by decide) (Or.inl (by decide))).symm (Rl_row hR (okC_agr (bec_agr _ _ _) hM1) kd1)) (rsc_trans (rsc_rfl v) (rsc_st _ _ (by decide))) dX5_undo_32
  · skip
    refine lv_aload_n C.1.1 C.1.2.1 dX5_undo_7 rfl (lv_at hl 0 rfl) ?_
    refine lv_ldc (v := (-1000004)) C.1.1 C.1.2.1 C.1.2.2.2.1 (C.1.2.2.2.2 _ (List.mem_of_getElem? (i := 2) rfl)) dX5_undo_8 ?_
    refine a_F hS (run_V C hP hS hl.1 0 5 (Nat.lt_of_lt_of_le (by decide) hn) rfl (by decide) rfl [.int (-1000004)] (kX5_finding l g n v 3 (by decide) (-1000004) rfl) gX5_undo_X5_finding rfl hdX5_finding rfl ⟨rfl, rfl⟩ ⟨Nat.le_of_ble_eq_true rfl, Nat.le_of_ble_eq_true rfl⟩ rfl [] rfl (Nat.le_of_ble_eq_true rfl) dX5_undo_10 ⟨Nat.zero_le _, Nat.zero_le _⟩) (fun H locs hP hS => ?_)
    have e54_2 : (fnC v 3).1 54 = v.1 54 := (upw_ne _ _ (by decide))
    exact t_P C rfl hP hS (ps_fd (f := fun u => undoM u) hR (sam_rfl v) (by decide) (by simp only [undoM, nM_of e54_2 hM, e54_2, if_pos (show  (fnC v 3).1 53 4 = 0 from (congrFun (upw_ne _ _ (by decide)) _).trans (hR.2.2.2.2.1.symm.trans c_1))]) rfl) (rsc_trans (rsc_rfl v) (rsc_w _ _ (by decide))) dX5_undo_13

abbrev rmX5_tear : Room := { frames := 0, cells := 0, slots := 0, locals := 0 }
set_option maxHeartbeats 4000000 in
set_option maxRecDepth 100000 in
theorem kX5_tear (l : Launch) (g : GG) (n : Nat) (v : SV) (N : Nat) (hR : Rl v N) : Met l yX5_tear wsX5_tear rmX5_tear (PW g n v [.ref (gA g 0)]) (QP g n v (fun u => tearM u)) 0 0 (wA g n) := by
  refine Met.begin RX5 rfl (by decide) rfl (Nat.le_of_ble_eq_true rfl) ?_
  intro p e s m args below meth c ls ha C hP hS hl
  have hn : 64 ≤ n := C.2.1.1.2.1
  have hi5 : ∀ w ∈ u_ws RX5 TX5 8, w ∈ wsX5_tear := by decide +kernel
  have hl : lv_has ls 2 [(0, .ref (gA g 0))] := hl
  have hC := hR.1.1
  have hA := hR.1.2
  have h8 := hC.1
  have hD : okC (v.1 54) N := okC_agr (agr_symm hA) hC
  have hM := okC_M hD
  refine lv_aload_n C.1.1 C.1.2.1 dX5_tear_0 rfl (lv_at hl 0 rfl) ?_
  refine r_get C hP 0 5 (Nat.lt_of_lt_of_le (by decide) hn) rfl (by decide) rfl hi5 3 (by decide) (List.mem_of_getElem? (i := 1) rfl) rfl (val := .int (v.1 0 3)) rfl dX5_tear_1 ?_
  refine lv_if_eq (tgt := 11) C.1.1 C.1.2.1 dX5_tear_4 (by decide) (fun c_1 => ?_) (fun c_1 => ?_)
  · skip
    refine lv_iconst (v := 0) C.1.1 C.1.2.1 dX5_tear_11 rfl ?_
    refine lv_istore_n (lv' := [(1, .int 0), (0, .ref (gA g 0))]) C.1.1 C.1.2.1 dX5_tear_12 rfl hl (by decide) rfl (fun ls hl => ?_)
    refine lv_aload_n C.1.1 C.1.2.1 dX5_tear_13 rfl (lv_at hl 1 rfl) ?_
    refine lv_iconst (v := 0) C.1.1 C.1.2.1 dX5_tear_14 rfl ?_
    refine r_put C hP hS 0 5 (Nat.lt_of_lt_of_le (by decide) hn) rfl (by decide) rfl hi5 tyX5 tyX5_ok nmX5 3 (by decide) (List.mem_of_getElem? (i := 1) rfl) rfl rfl rfl rfl rfl (Nat.le_of_ble_eq_true rfl) dX5_tear_15 (fun H locs hP hS => ?_)
    refine lv_iload_n C.1.1 C.1.2.1 dX5_tear_18 rfl (lv_at hl 0 rfl) ?_
    exact t_P C rfl hP hS (ps_to (show tearM (up v 0 3 0) = (0, up (up v 0 3 0) 53 4 0) from by rw [tearM, if_pos (show (up v 0 3 0).1 53 4 = 0 from (congrFun (upw_ne _ _ (by decide)) _).trans (hR.2.2.2.2.1.symm.trans c_1))]) rfl (Rl_tear hR)) (rsc_trans (rsc_rfl v) (rsc_w _ _ (by omega))) dX5_tear_19
  · skip
    refine lv_iconst (v := 1) C.1.1 C.1.2.1 dX5_tear_7 rfl ?_
    refine lv_goto (tgt := 12) C.1.1 C.1.2.1 dX5_tear_8 (by decide) ?_
    refine lv_istore_n (lv' := [(1, .int 1), (0, .ref (gA g 0))]) C.1.1 C.1.2.1 dX5_tear_12 rfl hl (by decide) rfl (fun ls hl => ?_)
    refine lv_aload_n C.1.1 C.1.2.1 dX5_tear_13 rfl (lv_at hl 1 rfl) ?_
    refine lv_iconst (v := 0) C.1.1 C.1.2.1 dX5_tear_14 rfl ?_
    refine r_put C hP hS 0 5 (Nat.lt_of_lt_of_le (by decide) hn) rfl (by decide) rfl hi5 tyX5 tyX5_ok nmX5 3 (by decide) (List.mem_of_getElem? (i := 1) rfl) rfl rfl rfl rfl rfl (Nat.le_of_ble_eq_true rfl) dX5_tear_15 (fun H locs hP hS => ?_)
    refine lv_iload_n C.1.1 C.1.2.1 dX5_tear_18 rfl (lv_at hl 0 rfl) ?_
    exact t_P C rfl hP hS (ps_to (show tearM (up v 0 3 0) = (1, up (up v 0 3 0) 53 4 0) from by rw [tearM, if_neg (show ¬ (up v 0 3 0).1 53 4 = 0 from fun q => c_1 (hR.2.2.2.2.1.trans ((congrFun (upw_ne _ _ (by decide)) _).symm.trans q)))]) rfl (Rl_tear hR)) (rsc_trans (rsc_rfl v) (rsc_w _ _ (by omega))) dX5_tear_19

abbrev rmX5_status : Room := { frames := 2, cells := 0, slots := 0, locals := 44 }
set_option maxHeartbeats 4000000 in
set_option maxRecDepth 100000 in
theorem kX5_status (l : Launch) (g : GG) (n : Nat) (v : SV) (x : Int32) (N : Nat) (hR : Rl v N) : Met l yX5_status wsX5_status rmX5_status (PW g n v [.ref (gA g 0), .int x]) (QP g n v (fun u => statusM u x)) 0 0 (wA g n) := by
  refine Met.begin RX5 rfl (by decide) rfl (Nat.le_of_ble_eq_true rfl) ?_
  intro p e s m args below meth c ls ha C hP hS hl
  have hn : 64 ≤ n := C.2.1.1.2.1
  have hi5 : ∀ w ∈ u_ws RX5 TX5 8, w ∈ wsX5_status := by decide +kernel
  have hl : lv_has ls 4 [(0, .ref (gA g 0)), (1, .int x)] := hl
  have hC := hR.1.1
  have hA := hR.1.2
  have h8 := hC.1
  have hD : okC (v.1 54) N := okC_agr (agr_symm hA) hC
  have hM := okC_M hD
  refine lv_iload_n C.1.1 C.1.2.1 dX5_status_0 rfl (lv_at hl 1 rfl) ?_
  refine lv_iconst (v := (-1)) C.1.1 C.1.2.1 dX5_status_1 rfl ?_
  refine lv_bipush (v := 6) C.1.1 C.1.2.1 dX5_status_2 rfl ?_
  refine a_B hS (run_S C hP hS hl.1 [.int x, .int (-1), .int 6] (kX5_isWithin l g n v x (-1) 6) gX5_status_X5_isWithin hdX5_isWithin rfl ⟨rfl, rfl⟩ ⟨Nat.le_of_ble_eq_true rfl, Nat.le_of_ble_eq_true rfl⟩ rfl [] rfl (Nat.le_of_ble_eq_true rfl) dX5_status_4 ⟨Nat.zero_le _, Nat.zero_le _⟩) (fun b_1 H locs hP hS => ?_) (fun b_1 H locs hP hS => ?_)
  · skip
    refine lv_if_ne (tgt := 17) C.1.1 C.1.2.1 dX5_status_7 (by decide) (fun _ => ?_) (fun c_2 => absurd c_2 (by decide))
    refine lv_iload_n C.1.1 C.1.2.1 dX5_status_17 rfl (lv_at hl 1 rfl) ?_
    refine lv_if_lt (tgt := 28) C.1.1 C.1.2.1 dX5_status_18 (by decide) (fun c_3 => ?_) (fun c_3 => ?_)
    · skip
      refine lv_iconst (v := 0) C.1.1 C.1.2.1 dX5_status_28 rfl ?_
      refine lv_istore_n (lv' := [(2, .int 0), (0, .ref (gA g 0)), (1, .int x)]) C.1.1 C.1.2.1 dX5_status_29 rfl hl (by decide) rfl (fun ls hl => ?_)
      refine lv_iconst (v := 0) C.1.1 C.1.2.1 dX5_status_30 rfl ?_
      refine lv_istore_n (lv' := [(3, .int 0), (2, .int 0), (0, .ref (gA g 0)), (1, .int x)]) C.1.1 C.1.2.1 dX5_status_31 rfl hl (by decide) rfl (fun ls hl => ?_)
      have lp_32 : ∀ (k_32 i : Nat), i ≤ 7 → 7 + 1 ≤ i + k_32 → ∀ (H : Heap) (locs : List Loc) (ls : Array Slot), va_P g.1 vwCl (wl g n v) H → va_S (wA g n) s.heap H locs → lv_has ls 4 [(0, .ref (gA g 0)), (1, .int x), (2, .int (statM (v.1 52) i)), (3, .int (nI i))] → W p l e rmX5_status s m args below meth c H locs 0 0 (MQ below (QP g n v (fun u => statusM u x)) args s 0 0 (wA g n)) (F0 m 32 ls []) := by
        clear hP hS hl
        intro k_32
        induction k_32 with
        | zero => exact fun i h1 h2 => absurd h2 (by omega)
        | succ k_32 ih_32 =>
          intro i hi_32 hk_32 H locs ls hP hS hl
          refine lv_iload_n C.1.1 C.1.2.1 dX5_status_32 rfl (lv_at hl 3 rfl) ?_
          refine lv_bipush (v := 7) C.1.1 C.1.2.1 dX5_status_33 rfl ?_
          refine lv_icmp_ge (tgt := 53) C.1.1 C.1.2.1 dX5_status_35 (by decide) (fun c_4 => ?_) (fun c_4 => ?_)
          · rw [show (7 ≤ nI i) = (7 ≤ i) from propext (nI_leI (a := 7) (b := i) (by omega) (by omega))] at c_4
            refine lv_iload_n C.1.1 C.1.2.1 dX5_status_53 rfl (lv_at hl 2 rfl) ?_
            exact t_P C rfl hP hS (ps_eq (u := v) hR (show statusM v x = (statM (v.1 58) 7, v) from by simp only [statusM, nM_eq hM, cif_pos (stat_iff.mpr b_1), if_neg (fa_lt_nle c_3)]) (by rw [show i = 7 by omega]; exact stat_cong hR.2.1 7 (by decide)) (sam_rfl v)) (rsc_rfl v) dX5_status_54
          · rw [show (7 ≤ nI i) = (7 ≤ i) from propext (nI_leI (a := 7) (b := i) (by omega) (by omega))] at c_4
            refine lv_iload_n C.1.1 C.1.2.1 dX5_status_38 rfl (lv_at hl 2 rfl) ?_
            refine lv_aload_n C.1.1 C.1.2.1 dX5_status_39 rfl (lv_at hl 0 rfl) ?_
            refine r_get C hP 0 5 (Nat.lt_of_lt_of_le (by decide) hn) rfl (by decide) rfl hi5 7 (by decide) (List.mem_of_getElem? (i := 2) rfl) rfl (val := .ref (gA g 52)) rfl dX5_status_40 ?_
            refine lv_iload_n C.1.1 C.1.2.1 dX5_status_43 rfl (lv_at hl 3 rfl) ?_
            refine r_iald C hP 52 (Nat.lt_of_lt_of_le (by decide) hn) rfl i rfl (N := 7) rfl (by decide) (by omega) dX5_status_44 ?_
            refine lv_iadd C.1.1 C.1.2.1 dX5_status_45 ?_
            refine lv_istore_n (lv' := [(2, .int ((statM (v.1 52) i) + (v.1 52 i))), (0, .ref (gA g 0)), (1, .int x), (3, .int (nI i))]) C.1.1 C.1.2.1 dX5_status_46 rfl hl (by decide) rfl (fun ls hl => ?_)
            refine lv_iinc (v := nI (i + 1)) (lv' := [(3, .int (nI (i + 1))), (2, .int ((statM (v.1 52) i) + (v.1 52 i))), (0, .ref (gA g 0)), (1, .int x)]) C.1.1 C.1.2.1 dX5_status_47 hl (k := 3) rfl (nI_1 i) (by decide) rfl (fun ls hl => ?_)
            refine lv_goto (tgt := 32) C.1.1 C.1.2.1 dX5_status_50 (by decide) ?_
            exact ih_32 (i + 1) (by omega) (by omega) _ _ _ hP hS (lv_sub hl [2, 3, 1, 0] rfl)
      exact lp_32 (7 + 1) 0 (Nat.zero_le _) (by omega) _ _ _ hP hS (lv_sub hl [2, 3, 1, 0] rfl)
    · skip
      obtain ⟨jx, hjx, rfl⟩ := (in_iffC 7 (by decide) (by decide)).mp ⟨fa_nlt c_3, b_1.2⟩
      refine lv_aload_n C.1.1 C.1.2.1 dX5_status_21 rfl (lv_at hl 0 rfl) ?_
      refine r_get C hP 0 5 (Nat.lt_of_lt_of_le (by decide) hn) rfl (by decide) rfl hi5 7 (by decide) (List.mem_of_getElem? (i := 2) rfl) rfl (val := .ref (gA g 52)) rfl dX5_status_22 ?_
      refine lv_iload_n C.1.1 C.1.2.1 dX5_status_25 rfl (lv_at hl 1 rfl) ?_
      refine r_iald C hP 52 (Nat.lt_of_lt_of_le (by decide) hn) rfl jx rfl (N := 7) rfl (by decide) (by omega) dX5_status_26 ?_
      exact t_P C rfl hP hS (ps_eq (u := v) hR (show statusM v (nI jx) = (v.1 58 jx, v) from by simp only [statusM, nM_eq hM, tn_nI (show jx < 2 ^ 31 by omega), cif_pos (stat_iff.mpr b_1), if_pos (fa_nlt c_3)]) (hR.2.1 jx hjx) (sam_rfl v)) (rsc_rfl v) dX5_status_27
  · skip
    refine lv_if_ne (tgt := 17) C.1.1 C.1.2.1 dX5_status_7 (by decide) (fun c_5 => absurd c_5 (by decide)) (fun _ => ?_)
    refine lv_aload_n C.1.1 C.1.2.1 dX5_status_10 rfl (lv_at hl 0 rfl) ?_
    refine lv_ldc (v := (-1000001)) C.1.1 C.1.2.1 C.1.2.2.2.1 (C.1.2.2.2.2 _ (List.mem_of_getElem? (i := 1) rfl)) dX5_status_11 ?_
    refine a_F hS (run_V C hP hS hl.1 0 5 (Nat.lt_of_lt_of_le (by decide) hn) rfl (by decide) rfl [.int (-1000001)] (kX5_finding l g n v 0 (by decide) (-1000001) rfl) gX5_status_X5_finding rfl hdX5_finding rfl ⟨rfl, rfl⟩ ⟨Nat.le_of_ble_eq_true rfl, Nat.le_of_ble_eq_true rfl⟩ rfl [] rfl (Nat.le_of_ble_eq_true rfl) dX5_status_13 ⟨Nat.zero_le _, Nat.zero_le _⟩) (fun H locs hP hS => ?_)
    have e54_6 : (fnC v 0).1 54 = v.1 54 := (upw_ne _ _ (by decide))
    exact t_P C rfl hP hS (ps_fd (f := fun u => statusM u x) hR (sam_rfl v) (by decide) (by simp only [statusM, nM_of e54_6 hM, e54_6, cif_neg (fun h => b_1 (stat_iff.mp h))]) rfl) (rsc_trans (rsc_rfl v) (rsc_w _ _ (by decide))) dX5_status_16

abbrev rmX5_hawk : Room := { frames := 6, cells := 0, slots := 0, locals := 133 }
set_option maxHeartbeats 4000000 in
set_option maxRecDepth 100000 in
theorem kX5_hawk (l : Launch) (g : GG) (n : Nat) (v : SV) (x : Int32) (N : Nat) (hR : Rl v N) : Met l yX5_hawk wsX5_hawk rmX5_hawk (PW g n v [.ref (gA g 0), .int x]) (QP g n v (fun u => hawkM u x)) 0 0 (wA g n) := by
  refine Met.begin RX5 rfl (by decide) rfl (Nat.le_of_ble_eq_true rfl) ?_
  intro p e s m args below meth c ls ha C hP hS hl
  have hn : 64 ≤ n := C.2.1.1.2.1
  have hi0 : ∀ w ∈ u_ws RX0 TX0 6, w ∈ wsX5_hawk := by decide +kernel
  have hi2 : ∀ w ∈ u_ws RX2 TX2 11, w ∈ wsX5_hawk := by decide +kernel
  have hi5 : ∀ w ∈ u_ws RX5 TX5 8, w ∈ wsX5_hawk := by decide +kernel
  have hl : lv_has ls 3 [(0, .ref (gA g 0)), (1, .int x)] := hl
  have hC := hR.1.1
  have hA := hR.1.2
  have h8 := hC.1
  have hD : okC (v.1 54) N := okC_agr (agr_symm hA) hC
  have hM := okC_M hD
  obtain ⟨D, hDD, hD1⟩ := (okC_M hC).2.2.1
  refine lv_iload_n C.1.1 C.1.2.1 dX5_hawk_0 rfl (lv_at hl 1 rfl) ?_
  refine lv_iconst (v := 1) C.1.1 C.1.2.1 dX5_hawk_1 rfl ?_
  refine lv_bipush (v := 20) C.1.1 C.1.2.1 dX5_hawk_2 rfl ?_
  refine a_B hS (run_S C hP hS hl.1 [.int x, .int 1, .int 20] (kX5_isWithin l g n v x 1 20) gX5_hawk_X5_isWithin hdX5_isWithin rfl ⟨rfl, rfl⟩ ⟨Nat.le_of_ble_eq_true rfl, Nat.le_of_ble_eq_true rfl⟩ rfl [] rfl (Nat.le_of_ble_eq_true rfl) dX5_hawk_4 ⟨Nat.zero_le _, Nat.zero_le _⟩) (fun b_1 H locs hP hS => ?_) (fun b_1 H locs hP hS => ?_)
  · skip
    have b_1 := (in_iffC2 1 21 (by decide) (by decide) (by decide)).mp b_1
    have kb_1 := b_1
    obtain ⟨jx, hljx, hjx, rfl⟩ := b_1
    refine lv_if_ne (tgt := 17) C.1.1 C.1.2.1 dX5_hawk_7 (by decide) (fun _ => ?_) (fun c_2 => absurd c_2 (by decide))
    refine lv_aload_n C.1.1 C.1.2.1 dX5_hawk_17 rfl (lv_at hl 0 rfl) ?_
    refine r_get C hP 0 5 (Nat.lt_of_lt_of_le (by decide) hn) rfl (by decide) rfl hi5 0 (by decide) (List.mem_of_getElem? (i := 2) rfl) rfl (val := .ref (gA g 1)) rfl dX5_hawk_18 ?_
    refine r_get C hP 1 2 (Nat.lt_of_lt_of_le (by decide) hn) rfl (by decide) rfl hi2 6 (by decide) (List.mem_of_getElem? (i := 3) rfl) rfl (val := .int (v.1 1 6)) rfl dX5_hawk_21 ?_
    refine lv_topE (nI D) ((scr_rd (i := 1) (sam_rfl v).1 (sl_k rfl) (by decide)).trans hD1) ?_
    refine lv_iload_n C.1.1 C.1.2.1 dX5_hawk_24 rfl (lv_at hl 1 rfl) ?_
    refine lv_iadd C.1.1 C.1.2.1 dX5_hawk_25 ?_
    refine lv_topE (nI (D + jx)) (nI_add D jx) ?_
    refine lv_ldc (v := 99999) C.1.1 C.1.2.1 C.1.2.2.2.1 (C.1.2.2.2.2 _ (List.mem_of_getElem? (i := 4) rfl)) dX5_hawk_26 ?_
    refine lv_icmp_le (tgt := 38) C.1.1 C.1.2.1 dX5_hawk_28 (by decide) (fun c_3 => ?_) (fun c_3 => ?_)
    · rw [show (nI (D + jx) ≤ 99999) = (D + jx ≤ 99999) from propext (nI_leI (a := D + jx) (b := 99999) (by omega) (by omega))] at c_3
      refine lv_iconst (v := 0) C.1.1 C.1.2.1 dX5_hawk_38 rfl ?_
      refine lv_istore_n (lv' := [(2, .int 0), (0, .ref (gA g 0)), (1, .int (nI jx))]) C.1.1 C.1.2.1 dX5_hawk_39 rfl hl (by decide) rfl (fun ls hl => ?_)
      have lp_40 : ∀ (k_40 i : Nat), i ≤ jx → jx + 1 ≤ i + k_40 → ∀ (H : Heap) (locs : List Loc) (ls : Array Slot), va_P g.1 vwCl (wl g n (stW v 1 (hkM (stR v 1) i))) H → va_S (wA g n) s.heap H locs → lv_has ls 3 [(0, .ref (gA g 0)), (1, .int (nI jx)), (2, .int (nI i))] → W p l e rmX5_hawk s m args below meth c H locs 0 0 (MQ below (QP g n v (fun u => hawkM u (nI jx))) args s 0 0 (wA g n)) (F0 m 40 ls []) := by
        clear hP hS hl
        intro k_40
        induction k_40 with
        | zero => exact fun i h1 h2 => absurd h2 (by omega)
        | succ k_40 ih_40 =>
          intro i hi_40 hk_40 H locs ls hP hS hl
          obtain ⟨Di, hDi, eDi⟩ := (okC_M (okC_hk hC i)).2.2.1
          refine lv_iload_n C.1.1 C.1.2.1 dX5_hawk_40 rfl (lv_at hl 2 rfl) ?_
          refine lv_iload_n C.1.1 C.1.2.1 dX5_hawk_41 rfl (lv_at hl 1 rfl) ?_
          refine lv_icmp_ge (tgt := 103) C.1.1 C.1.2.1 dX5_hawk_42 (by decide) (fun c_4 => ?_) (fun c_4 => ?_)
          · rw [show (nI jx ≤ nI i) = (jx ≤ i) from propext (nI_leI (a := jx) (b := i) (by omega) (by omega))] at c_4
            obtain rfl : jx = i := by omega
            refine lv_aload_n C.1.1 C.1.2.1 dX5_hawk_103 rfl (lv_at hl 0 rfl) ?_
            refine r_get C hP 0 5 (Nat.lt_of_lt_of_le (by decide) hn) rfl (by decide) rfl hi5 0 (by decide) (List.mem_of_getElem? (i := 2) rfl) rfl (val := .ref (gA g 1)) rfl dX5_hawk_104 ?_
            refine r_get C hP 1 2 (Nat.lt_of_lt_of_le (by decide) hn) rfl (by decide) rfl hi2 5 (by decide) (List.mem_of_getElem? (i := 8) rfl) rfl (val := .int ((stW v 1 (hkM (stR v 1) jx)).1 1 5)) rfl dX5_hawk_107 ?_
            refine lv_topE ((hkM (stR v 1) jx) 6) ((st_at (i := 6) (sl_k rfl) (by decide)).trans rfl) ?_
            have e54_5 : (stW v 1 (hkM (stR v 1) jx)).1 54 = v.1 54 := (st_far (by decide))
            exact t_P C rfl hP hS (ps_to (show hawkM (stW v 1 (hkM (stR v 1) jx)) (nI jx) = (hkM (v.1 54) jx 6, upw (stW v 1 (hkM (stR v 1) jx)) 54 (hkM (v.1 54) jx)) from by simp only [hawkM, nM_of e54_5 hM, e54_5, cif_pos kb_1, if_pos c_3, tn_nI (show jx < 2 ^ 31 by omega), show v.1 54 1 = nI D from (agr_lo hA (by decide)).trans hD1, tn_nI (show D < 2 ^ 31 by omega), up]) (agr_lo (agr_symm (agr_hk hA hD jx)) (by decide)) (Rl_row hR (okC_hk hC jx) (agr_hk hA hD jx))) (rsc_trans (rsc_rfl v) (rsc_st _ _ (by decide))) dX5_hawk_110
          · rw [show (nI jx ≤ nI i) = (jx ≤ i) from propext (nI_leI (a := jx) (b := i) (by omega) (by omega))] at c_4
            refine lv_aload_n C.1.1 C.1.2.1 dX5_hawk_45 rfl (lv_at hl 0 rfl) ?_
            refine r_get C hP 0 5 (Nat.lt_of_lt_of_le (by decide) hn) rfl (by decide) rfl hi5 0 (by decide) (List.mem_of_getElem? (i := 2) rfl) rfl (val := .ref (gA g 1)) rfl dX5_hawk_46 ?_
            refine r_get C hP 1 2 (Nat.lt_of_lt_of_le (by decide) hn) rfl (by decide) rfl hi2 3 (by decide) (List.mem_of_getElem? (i := 6) rfl) rfl (val := .ref (gA g 2)) rfl dX5_hawk_49 ?_
            refine lv_aload_n C.1.1 C.1.2.1 dX5_hawk_52 rfl (lv_at hl 0 rfl) ?_
            refine r_get C hP 0 5 (Nat.lt_of_lt_of_le (by decide) hn) rfl (by decide) rfl hi5 0 (by decide) (List.mem_of_getElem? (i := 2) rfl) rfl (val := .ref (gA g 1)) rfl dX5_hawk_53 ?_
            refine r_get C hP 1 2 (Nat.lt_of_lt_of_le (by decide) hn) rfl (by decide) rfl hi2 6 (by decide) (List.mem_of_getElem? (i := 3) rfl) rfl (val := .int ((stW v 1 (hkM (stR v 1) i)).1 1 6)) rfl dX5_hawk_56 ?_
            refine lv_topE (nI Di) ((st_at (i := 1) (sl_k rfl) (by decide)).trans eDi) ?_
            refine lv_bipush (v := 6) C.1.1 C.1.2.1 dX5_hawk_59 rfl ?_
            refine lv_irem C.1.1 C.1.2.1 dX5_hawk_61 (by decide) ?_
            refine lv_topE (nI (Di % 6)) (pk_rem (by omega) (by decide) (by decide)) ?_
            refine lv_aload_n C.1.1 C.1.2.1 dX5_hawk_62 rfl (lv_at hl 0 rfl) ?_
            refine r_get C hP 0 5 (Nat.lt_of_lt_of_le (by decide) hn) rfl (by decide) rfl hi5 0 (by decide) (List.mem_of_getElem? (i := 2) rfl) rfl (val := .ref (gA g 1)) rfl dX5_hawk_63 ?_
            refine a_F hS (run_V C hP hS hl.1 1 2 (Nat.lt_of_lt_of_le (by decide) hn) rfl (by decide) rfl [] (kX2_draw l g n (stW v 1 (hkM (stR v 1) i)) v 1 (hkM (stR v 1) i) N (Or.inl rfl) rfl (okC_hk hC i)) gX5_hawk_X2_draw rfl hdX2_draw rfl ⟨rfl, rfl⟩ ⟨Nat.le_of_ble_eq_true rfl, Nat.le_of_ble_eq_true rfl⟩ rfl [.int (nI (Di % 6)), .ref (gA g 2)] rfl (Nat.le_of_ble_eq_true rfl) dX5_hawk_66 ⟨Nat.zero_le _, Nat.zero_le _⟩) (fun H locs hP hS => ?_)
            obtain ⟨d_6, hd_6⟩ : ∃ zz, zz = upd (hkM (stR v 1) i) 2 (lcgF ((hkM (stR v 1) i) 2)) := ⟨_, rfl⟩
            rw [← hd_6] at hP
            have cd_6 : okC d_6 N := by rw [hd_6]; exact (okC_upd (okC_hk hC i) (by decide) (Or.inl rfl))
            refine lv_bipush (v := 12) C.1.1 C.1.2.1 dX5_hawk_69 rfl ?_
            refine lv_irem C.1.1 C.1.2.1 dX5_hawk_71 (by decide) ?_
            refine lv_topE (nI (uq (lcgF ((hkM (stR v 1) i) 2)) % 12)) (by rw [uq_eq]; exact pk_rem (Nat.lt_trans (uq_lt _) (by decide)) (by decide) (by decide)) ?_
            refine r_iast C hP hS 2 (Nat.lt_of_lt_of_le (by decide) hn) rfl (Di % 6) rfl (N := 6) rfl (by decide) (by omega) dX5_hawk_72 (fun H locs hP hS => ?_)
            rw [show up (stW v 1 d_6) 2 (Di % 6) (nI (uq (lcgF ((hkM (stR v 1) i) 2)) % 12)) = stW v 1 (upd d_6 (7 + (Di % 6)) (nI (uq (lcgF ((hkM (stR v 1) i) 2)) % 12))) from st_up (i := 7 + (Di % 6)) (sl_1 (by omega)) (by omega)] at hP
            obtain ⟨d_7, hd_7⟩ : ∃ zz, zz = upd d_6 (7 + (Di % 6)) (nI (uq (lcgF ((hkM (stR v 1) i) 2)) % 12)) := ⟨_, rfl⟩
            rw [← hd_7] at hP
            have cd_7 : okC d_7 N := by rw [hd_7]; exact (okC_list cd_6 (Nat.mod_lt _ (by decide)) (Nat.mod_lt _ (by decide)) rfl)
            refine lv_aload_n C.1.1 C.1.2.1 dX5_hawk_73 rfl (lv_at hl 0 rfl) ?_
            refine r_get C hP 0 5 (Nat.lt_of_lt_of_le (by decide) hn) rfl (by decide) rfl hi5 0 (by decide) (List.mem_of_getElem? (i := 2) rfl) rfl (val := .ref (gA g 1)) rfl dX5_hawk_74 ?_
            refine lv_aload_n C.1.1 C.1.2.1 dX5_hawk_77 rfl (lv_at hl 0 rfl) ?_
            refine r_get C hP 0 5 (Nat.lt_of_lt_of_le (by decide) hn) rfl (by decide) rfl hi5 0 (by decide) (List.mem_of_getElem? (i := 2) rfl) rfl (val := .ref (gA g 1)) rfl dX5_hawk_78 ?_
            refine a_F hS (run_V C hP hS hl.1 1 2 (Nat.lt_of_lt_of_le (by decide) hn) rfl (by decide) rfl [] (kX2_draw l g n (stW v 1 d_7) v 1 d_7 N (Or.inl rfl) rfl cd_7) gX5_hawk_X2_draw rfl hdX2_draw rfl ⟨rfl, rfl⟩ ⟨Nat.le_of_ble_eq_true rfl, Nat.le_of_ble_eq_true rfl⟩ rfl [.ref (gA g 1)] rfl (Nat.le_of_ble_eq_true rfl) dX5_hawk_81 ⟨Nat.zero_le _, Nat.zero_le _⟩) (fun H locs hP hS => ?_)
            obtain ⟨d_8, hd_8⟩ : ∃ zz, zz = upd d_7 2 (lcgF (d_7 2)) := ⟨_, rfl⟩
            rw [← hd_8] at hP
            have cd_8 : okC d_8 N := by rw [hd_8]; exact (okC_upd cd_7 (by decide) (Or.inl rfl))
            refine lv_bipush (v := 10) C.1.1 C.1.2.1 dX5_hawk_84 rfl ?_
            refine lv_irem C.1.1 C.1.2.1 dX5_hawk_86 (by decide) ?_
            refine lv_topE (nI (uq (lcgF (d_7 2)) % 10)) (by rw [uq_eq]; exact pk_rem (Nat.lt_trans (uq_lt _) (by decide)) (by decide) (by decide)) ?_
            obtain ⟨zu, hzu, ezu⟩ : ∃ m, m < 10 ∧ uq (lcgF (d_7 2)) % 10 = m := ⟨_, Nat.mod_lt _ (by decide), rfl⟩
            refine lv_topE (nI zu) (by rw [ezu]) ?_
            refine r_put C hP hS 1 2 (Nat.lt_of_lt_of_le (by decide) hn) rfl (by decide) rfl hi2 tyX2 tyX2_ok nmX2 2 (by decide) (List.mem_of_getElem? (i := 7) rfl) rfl rfl rfl rfl rfl (Nat.le_of_ble_eq_true rfl) dX5_hawk_87 (fun H locs hP hS => ?_)
            rw [show up (stW v 1 d_8) 1 2 (nI zu) = stW v 1 (upd d_8 5 (nI zu)) from st_up (i := 5) (sl_k rfl) (by decide)] at hP
            obtain ⟨d_10, hd_10⟩ : ∃ zz, zz = upd d_8 5 (nI zu) := ⟨_, rfl⟩
            rw [← hd_10] at hP
            have cd_10 : okC d_10 N := by rw [hd_10]; exact (okC_upd cd_8 (by decide) (Or.inr ⟨zu, hzu, rfl⟩))
            refine lv_aload_n C.1.1 C.1.2.1 dX5_hawk_90 rfl (lv_at hl 0 rfl) ?_
            refine r_get C hP 0 5 (Nat.lt_of_lt_of_le (by decide) hn) rfl (by decide) rfl hi5 0 (by decide) (List.mem_of_getElem? (i := 2) rfl) rfl (val := .ref (gA g 1)) rfl dX5_hawk_91 ?_
            refine a_G hS (run_V C hP hS hl.1 1 2 (Nat.lt_of_lt_of_le (by decide) hn) rfl (by decide) rfl [] (kX2_passDay l g n (stW v 1 d_10) v 1 d_10 N (Or.inl rfl) rfl cd_10) gX5_hawk_X2_passDay rfl hdX2_passDay rfl ⟨rfl, rfl⟩ ⟨Nat.le_of_ble_eq_true rfl, Nat.le_of_ble_eq_true rfl⟩ rfl [] rfl (Nat.le_of_ble_eq_true rfl) dX5_hawk_94 ⟨Nat.zero_le _, Nat.zero_le _⟩) (fun H locs hP hS => ?_)
            refine lv_iinc (v := nI (i + 1)) (lv' := [(2, .int (nI (i + 1))), (0, .ref (gA g 0)), (1, .int (nI jx))]) C.1.1 C.1.2.1 dX5_hawk_97 hl (k := 2) rfl (nI_1 i) (by decide) rfl (fun ls hl => ?_)
            refine lv_goto (tgt := 40) C.1.1 C.1.2.1 dX5_hawk_100 (by decide) ?_
            exact ih_40 (i + 1) (by omega) (by omega) _ _ _ (by rw [show hkM (stR v 1) (i + 1) = dayM d_10 from by rw [hkM, hkS, eDi, tn_nI (by omega), ← hd_6, ← hd_7, ← hd_8, ezu, ← hd_10]]; exact hP) hS (lv_sub hl [1, 2, 0] rfl)
      exact lp_40 (jx + 1) 0 (Nat.zero_le _) (by omega) _ _ _ (by rw [show stW v 1 (hkM (stR v 1) 0) = v from st_self v 1]; exact hP) hS (lv_sub hl [1, 2, 0] rfl)
    · rw [show (nI (D + jx) ≤ 99999) = (D + jx ≤ 99999) from propext (nI_leI (a := D + jx) (b := 99999) (by omega) (by omega))] at c_3
      refine lv_aload_n C.1.1 C.1.2.1 dX5_hawk_31 rfl (lv_at hl 0 rfl) ?_
      refine lv_ldc (v := (-1000005)) C.1.1 C.1.2.1 C.1.2.2.2.1 (C.1.2.2.2.2 _ (List.mem_of_getElem? (i := 5) rfl)) dX5_hawk_32 ?_
      refine a_F hS (run_V C hP hS hl.1 0 5 (Nat.lt_of_lt_of_le (by decide) hn) rfl (by decide) rfl [.int (-1000005)] (kX5_finding l g n v 4 (by decide) (-1000005) rfl) gX5_hawk_X5_finding rfl hdX5_finding rfl ⟨rfl, rfl⟩ ⟨Nat.le_of_ble_eq_true rfl, Nat.le_of_ble_eq_true rfl⟩ rfl [] rfl (Nat.le_of_ble_eq_true rfl) dX5_hawk_34 ⟨Nat.zero_le _, Nat.zero_le _⟩) (fun H locs hP hS => ?_)
      have e54_11 : (fnC v 4).1 54 = v.1 54 := (upw_ne _ _ (by decide))
      exact t_P C rfl hP hS (ps_fd (f := fun u => hawkM u (nI jx)) hR (sam_rfl v) (by decide) (by simp only [hawkM, nM_of e54_11 hM, e54_11, cif_pos kb_1, if_neg c_3, tn_nI (show jx < 2 ^ 31 by omega), show v.1 54 1 = nI D from (agr_lo hA (by decide)).trans hD1, tn_nI (show D < 2 ^ 31 by omega)]) rfl) (rsc_trans (rsc_rfl v) (rsc_w _ _ (by decide))) dX5_hawk_37
  · skip
    have b_1 := fun h => b_1 ((in_iffC2 1 21 (by decide) (by decide) (by decide)).mpr h)
    refine lv_if_ne (tgt := 17) C.1.1 C.1.2.1 dX5_hawk_7 (by decide) (fun c_12 => absurd c_12 (by decide)) (fun _ => ?_)
    refine lv_aload_n C.1.1 C.1.2.1 dX5_hawk_10 rfl (lv_at hl 0 rfl) ?_
    refine lv_ldc (v := (-1000001)) C.1.1 C.1.2.1 C.1.2.2.2.1 (C.1.2.2.2.2 _ (List.mem_of_getElem? (i := 1) rfl)) dX5_hawk_11 ?_
    refine a_F hS (run_V C hP hS hl.1 0 5 (Nat.lt_of_lt_of_le (by decide) hn) rfl (by decide) rfl [.int (-1000001)] (kX5_finding l g n v 0 (by decide) (-1000001) rfl) gX5_hawk_X5_finding rfl hdX5_finding rfl ⟨rfl, rfl⟩ ⟨Nat.le_of_ble_eq_true rfl, Nat.le_of_ble_eq_true rfl⟩ rfl [] rfl (Nat.le_of_ble_eq_true rfl) dX5_hawk_13 ⟨Nat.zero_le _, Nat.zero_le _⟩) (fun H locs hP hS => ?_)
    have e54_13 : (fnC v 0).1 54 = v.1 54 := (upw_ne _ _ (by decide))
    exact t_P C rfl hP hS (ps_fd (f := fun u => hawkM u x) hR (sam_rfl v) (by decide) (by simp only [hawkM, nM_of e54_13 hM, e54_13, cif_neg b_1, show v.1 54 1 = nI D from (agr_lo hA (by decide)).trans hD1, tn_nI (show D < 2 ^ 31 by omega)]) rfl) (rsc_trans (rsc_rfl v) (rsc_w _ _ (by decide))) dX5_hawk_16

abbrev rmX3_append : Room := { frames := 0, cells := 0, slots := 0, locals := 0 }
set_option maxHeartbeats 4000000 in
set_option maxRecDepth 100000 in
theorem kX3_append (l : Launch) (g : GG) (n : Nat) (v : SV) (T : Nat) (hT : v.1 41 1 = nI T) (hT9 : T < 120) (x : Int32) (hx8 : x.toInt8.toInt32 = x) : Met l yX3_append wsX3_append rmX3_append (PW g n v [.ref (gA g 41), .int x]) (QG g n (up (up v 42 T x) 41 1 (nI (T + 1)))) 0 0 (wA g n) := by
  refine Met.begin RX3 rfl (by decide) rfl (Nat.le_of_ble_eq_true rfl) ?_
  intro p e s m args below meth c ls ha C hP hS hl
  have hn : 64 ≤ n := C.2.1.1.2.1
  have hi3 : ∀ w ∈ u_ws RX3 TX3 6, w ∈ wsX3_append := by decide +kernel
  have hl : lv_has ls 2 [(0, .ref (gA g 41)), (1, .int x)] := hl
  refine lv_aload_n C.1.1 C.1.2.1 dX3_append_0 rfl (lv_at hl 0 rfl) ?_
  refine r_get C hP 41 3 (Nat.lt_of_lt_of_le (by decide) hn) rfl (by decide) rfl hi3 1 (by decide) (List.mem_of_getElem? (i := 1) rfl) rfl (val := .int (v.1 41 1)) rfl dX3_append_1 ?_
  refine lv_topE (nI T) hT ?_
  refine lv_bipush (v := 120) C.1.1 C.1.2.1 dX3_append_4 rfl ?_
  refine lv_icmp_ge (tgt := 29) C.1.1 C.1.2.1 dX3_append_6 (by decide) (fun c_1 => ?_) (fun c_1 => ?_)
  · rw [show (120 ≤ nI T) = (120 ≤ T) from propext (nI_leI (a := 120) (b := T) (by omega) (by omega))] at c_1
    exact absurd c_1 (by omega)
  · rw [show (120 ≤ nI T) = (120 ≤ T) from propext (nI_leI (a := 120) (b := T) (by omega) (by omega))] at c_1
    refine lv_aload_n C.1.1 C.1.2.1 dX3_append_9 rfl (lv_at hl 0 rfl) ?_
    refine r_get C hP 41 3 (Nat.lt_of_lt_of_le (by decide) hn) rfl (by decide) rfl hi3 0 (by decide) (List.mem_of_getElem? (i := 2) rfl) rfl (val := .ref (gA g 42)) rfl dX3_append_10 ?_
    refine lv_aload_n C.1.1 C.1.2.1 dX3_append_13 rfl (lv_at hl 0 rfl) ?_
    refine r_get C hP 41 3 (Nat.lt_of_lt_of_le (by decide) hn) rfl (by decide) rfl hi3 1 (by decide) (List.mem_of_getElem? (i := 1) rfl) rfl (val := .int (v.1 41 1)) rfl dX3_append_14 ?_
    refine lv_topE (nI T) hT ?_
    refine lv_iload_n C.1.1 C.1.2.1 dX3_append_17 rfl (lv_at hl 1 rfl) ?_
    refine r_bast C hP hS 42 (Nat.lt_of_lt_of_le (by decide) hn) rfl T rfl (N := 120) rfl (by decide) (by omega) hx8 dX3_append_18 (fun H locs hP hS => ?_)
    refine lv_aload_n C.1.1 C.1.2.1 dX3_append_19 rfl (lv_at hl 0 rfl) ?_
    refine lv_dup C.1.1 C.1.2.1 dX3_append_20 rfl ?_
    refine r_get C hP 41 3 (Nat.lt_of_lt_of_le (by decide) hn) rfl (by decide) rfl hi3 1 (by decide) (List.mem_of_getElem? (i := 1) rfl) rfl (val := .int ((up v 42 T x).1 41 1)) rfl dX3_append_21 ?_
    refine lv_topE (nI T) ((congrFun (upw_ne _ _ (by decide)) _).trans hT) ?_
    refine lv_iconst (v := 1) C.1.1 C.1.2.1 dX3_append_24 rfl ?_
    refine lv_iadd C.1.1 C.1.2.1 dX3_append_25 ?_
    refine lv_topE (nI (T + 1)) (nI_add T 1) ?_
    refine r_put C hP hS 41 3 (Nat.lt_of_lt_of_le (by decide) hn) rfl (by decide) rfl hi3 tyX3 tyX3_ok nmX3 1 (by decide) (List.mem_of_getElem? (i := 1) rfl) rfl rfl rfl rfl rfl (Nat.le_of_ble_eq_true rfl) dX3_append_26 (fun H locs hP hS => ?_)
    exact t_G C rfl hP hS rfl dX3_append_29

abbrev rmX5_feed : Room := { frames := 2, cells := 0, slots := 0, locals := 44 }
set_option maxHeartbeats 4000000 in
set_option maxRecDepth 100000 in
theorem kX5_feed (l : Launch) (g : GG) (n : Nat) (v : SV) (x y : Int32) (N : Nat) (hR : Rl v N) : Met l yX5_feed wsX5_feed rmX5_feed (PW g n v [.ref (gA g 0), .int x, .int y]) (QP g n v (fun u => feedM u x y)) 0 0 (wA g n) := by
  refine Met.begin RX5 rfl (by decide) rfl (Nat.le_of_ble_eq_true rfl) ?_
  intro p e s m args below meth c ls ha C hP hS hl
  have hn : 64 ≤ n := C.2.1.1.2.1
  have hi3 : ∀ w ∈ u_ws RX3 TX3 6, w ∈ wsX5_feed := by decide +kernel
  have hi5 : ∀ w ∈ u_ws RX5 TX5 8, w ∈ wsX5_feed := by decide +kernel
  have hl : lv_has ls 4 [(0, .ref (gA g 0)), (1, .int x), (2, .int y)] := hl
  have hC := hR.1.1
  have hA := hR.1.2
  have h8 := hC.1
  have hD : okC (v.1 54) N := okC_agr (agr_symm hA) hC
  have hM := okC_M hD
  obtain ⟨T, hT, hT1, hT2, hT3⟩ := hR.2.2.1
  refine lv_iload_n C.1.1 C.1.2.1 dX5_feed_0 rfl (lv_at hl 2 rfl) ?_
  refine lv_iconst (v := 1) C.1.1 C.1.2.1 dX5_feed_1 rfl ?_
  refine lv_iconst (v := 4) C.1.1 C.1.2.1 dX5_feed_2 rfl ?_
  refine a_B hS (run_S C hP hS hl.1 [.int y, .int 1, .int 4] (kX5_isWithin l g n v y 1 4) gX5_feed_X5_isWithin hdX5_isWithin rfl ⟨rfl, rfl⟩ ⟨Nat.le_of_ble_eq_true rfl, Nat.le_of_ble_eq_true rfl⟩ rfl [] rfl (Nat.le_of_ble_eq_true rfl) dX5_feed_3 ⟨Nat.zero_le _, Nat.zero_le _⟩) (fun b_1 H locs hP hS => ?_) (fun b_1 H locs hP hS => ?_)
  · skip
    have b_1 := (in_iffC2 1 5 (by decide) (by decide) (by decide)).mp b_1
    have kb_1 := b_1
    obtain ⟨jy, hljy, hjy, rfl⟩ := b_1
    refine lv_if_ne (tgt := 16) C.1.1 C.1.2.1 dX5_feed_6 (by decide) (fun _ => ?_) (fun c_2 => absurd c_2 (by decide))
    refine lv_aload_n C.1.1 C.1.2.1 dX5_feed_16 rfl (lv_at hl 0 rfl) ?_
    refine r_get C hP 0 5 (Nat.lt_of_lt_of_le (by decide) hn) rfl (by decide) rfl hi5 5 (by decide) (List.mem_of_getElem? (i := 2) rfl) rfl (val := .ref (gA g 41)) rfl dX5_feed_17 ?_
    refine r_get C hP 41 3 (Nat.lt_of_lt_of_le (by decide) hn) rfl (by decide) rfl hi3 1 (by decide) (List.mem_of_getElem? (i := 3) rfl) rfl (val := .int (v.1 41 1)) rfl dX5_feed_20 ?_
    refine lv_topE (nI T) hT2 ?_
    refine lv_iload_n C.1.1 C.1.2.1 dX5_feed_23 rfl (lv_at hl 2 rfl) ?_
    refine lv_iadd C.1.1 C.1.2.1 dX5_feed_24 ?_
    refine lv_topE (nI (T + jy)) (nI_add T jy) ?_
    refine lv_bipush (v := 120) C.1.1 C.1.2.1 dX5_feed_25 rfl ?_
    refine lv_icmp_le (tgt := 37) C.1.1 C.1.2.1 dX5_feed_27 (by decide) (fun c_3 => ?_) (fun c_3 => ?_)
    · rw [show (nI (T + jy) ≤ 120) = (T + jy ≤ 120) from propext (nI_leI (a := T + jy) (b := 120) (by omega) (by omega))] at c_3
      have hj4 : jy = 1 ∨ jy = 2 ∨ jy = 3 ∨ jy = 4 := by omega
      rcases hj4 with rfl | hj4
      · skip
        rw [show nI 1 = 1 from rfl] at hl
        refine lv_iload_n C.1.1 C.1.2.1 dX5_feed_37 rfl (lv_at hl 2 rfl) ?_
        refine lv_iconst (v := 1) C.1.1 C.1.2.1 dX5_feed_38 rfl ?_
        refine lv_isub C.1.1 C.1.2.1 dX5_feed_39 ?_
        refine lv_topE 0 (by decide) ?_
        refine lv_istore_n (lv' := [(3, .int 0), (0, .ref (gA g 0)), (1, .int x), (2, .int 1)]) C.1.1 C.1.2.1 dX5_feed_40 rfl hl (by decide) rfl (fun ls hl => ?_)
        refine lv_iload_n C.1.1 C.1.2.1 dX5_feed_41 rfl (lv_at hl 0 rfl) ?_
        refine lv_if_lt (tgt := 65) C.1.1 C.1.2.1 dX5_feed_42 (by decide) (fun c_4 => absurd c_4 (by decide)) (fun _ => ?_)
        refine lv_aload_n C.1.1 C.1.2.1 dX5_feed_45 rfl (lv_at hl 1 rfl) ?_
        refine r_get C hP 0 5 (Nat.lt_of_lt_of_le (by decide) hn) rfl (by decide) rfl hi5 5 (by decide) (List.mem_of_getElem? (i := 2) rfl) rfl (val := .ref (gA g 41)) rfl dX5_feed_46 ?_
        refine lv_iload_n C.1.1 C.1.2.1 dX5_feed_49 rfl (lv_at hl 2 rfl) ?_
        refine lv_bipush (v := 8) C.1.1 C.1.2.1 dX5_feed_50 rfl ?_
        refine lv_iload_n C.1.1 C.1.2.1 dX5_feed_52 rfl (lv_at hl 0 rfl) ?_
        refine lv_imul C.1.1 C.1.2.1 dX5_feed_53 ?_
        refine lv_topE 0 (by decide) ?_
        refine lv_iushr (v := (x.toUInt32 >>> ((0 : Int32).toUInt32 &&& Int32.toUInt32 31)).toInt32) C.1.1 C.1.2.1 dX5_feed_54 rfl ?_
        refine lv_i2b (v := ((x.toUInt32 >>> ((0 : Int32).toUInt32 &&& Int32.toUInt32 31)).toInt32).toInt8.toInt32) C.1.1 C.1.2.1 dX5_feed_55 rfl ?_
        refine lv_topE (ubyte x 0) rfl ?_
        refine a_G hS (run_V C hP hS hl.1 41 3 (Nat.lt_of_lt_of_le (by decide) hn) rfl (by decide) rfl [.int (ubyte x 0)] (kX3_append l g n v T hT2 (by omega) (ubyte x 0) (ub8 _ _)) gX5_feed_X3_append rfl hdX3_append rfl ⟨rfl, rfl⟩ ⟨Nat.le_of_ble_eq_true rfl, Nat.le_of_ble_eq_true rfl⟩ rfl [] rfl (Nat.le_of_ble_eq_true rfl) dX5_feed_56 ⟨Nat.zero_le _, Nat.zero_le _⟩) (fun H locs hP hS => ?_)
        refine lv_iinc (v := (-1)) (lv' := [(3, .int (-1)), (0, .ref (gA g 0)), (1, .int x), (2, .int 1)]) C.1.1 C.1.2.1 dX5_feed_59 hl (k := 0) rfl (by decide) (by decide) rfl (fun ls hl => ?_)
        refine lv_goto (tgt := 41) C.1.1 C.1.2.1 dX5_feed_62 (by decide) ?_
        refine lv_iload_n C.1.1 C.1.2.1 dX5_feed_41 rfl (lv_at hl 0 rfl) ?_
        refine lv_if_lt (tgt := 65) C.1.1 C.1.2.1 dX5_feed_42 (by decide) (fun _ => ?_) (fun c_5 => absurd c_5 (by decide))
        refine lv_aload_n C.1.1 C.1.2.1 dX5_feed_65 rfl (lv_at hl 1 rfl) ?_
        refine r_get C hP 0 5 (Nat.lt_of_lt_of_le (by decide) hn) rfl (by decide) rfl hi5 5 (by decide) (List.mem_of_getElem? (i := 2) rfl) rfl (val := .ref (gA g 41)) rfl dX5_feed_66 ?_
        refine r_get C hP 41 3 (Nat.lt_of_lt_of_le (by decide) hn) rfl (by decide) rfl hi3 1 (by decide) (List.mem_of_getElem? (i := 3) rfl) rfl (val := .int ((up (up v 42 T (ubyte x 0)) 41 1 (nI (T + 1))).1 41 1)) rfl dX5_feed_69 ?_
        refine lv_topE (nI (T + 1)) (upup _ _ _ _) ?_
        exact t_P C rfl hP hS (ps_to (show feedM (up (up v 42 T (ubyte x 0)) 41 1 (nI (T + 1))) x (nI 1) = (nI (T + 1), ffM (up (up v 42 T (ubyte x 0)) 41 1 (nI (T + 1))) x T 1) from by simp only [feedM, cif_pos kb_1, tn_nI (show 1 < 2 ^ 31 by decide), show (up (up v 42 T (ubyte x 0)) 41 1 (nI (T + 1))).1 53 7 = nI T from (congrFun (((upw_ne _ _ (by decide)).trans (upw_ne _ _ (by decide)))) _).trans hT1, tn_nI (show T < 2 ^ 31 by omega), if_pos c_3]) rfl (Rl_feed (x := x) (T := T) (k := 1) hR (by decide) (by omega) hT1)) (rsc_trans (rsc_trans (rsc_rfl v) (rsc_w _ _ (by omega))) (rsc_w _ _ (by omega))) dX5_feed_72
      rcases hj4 with rfl | hj4
      · skip
        rw [show nI 2 = 2 from rfl] at hl
        refine lv_iload_n C.1.1 C.1.2.1 dX5_feed_37 rfl (lv_at hl 2 rfl) ?_
        refine lv_iconst (v := 1) C.1.1 C.1.2.1 dX5_feed_38 rfl ?_
        refine lv_isub C.1.1 C.1.2.1 dX5_feed_39 ?_
        refine lv_topE 1 (by decide) ?_
        refine lv_istore_n (lv' := [(3, .int 1), (0, .ref (gA g 0)), (1, .int x), (2, .int 2)]) C.1.1 C.1.2.1 dX5_feed_40 rfl hl (by decide) rfl (fun ls hl => ?_)
        refine lv_iload_n C.1.1 C.1.2.1 dX5_feed_41 rfl (lv_at hl 0 rfl) ?_
        refine lv_if_lt (tgt := 65) C.1.1 C.1.2.1 dX5_feed_42 (by decide) (fun c_6 => absurd c_6 (by decide)) (fun _ => ?_)
        refine lv_aload_n C.1.1 C.1.2.1 dX5_feed_45 rfl (lv_at hl 1 rfl) ?_
        refine r_get C hP 0 5 (Nat.lt_of_lt_of_le (by decide) hn) rfl (by decide) rfl hi5 5 (by decide) (List.mem_of_getElem? (i := 2) rfl) rfl (val := .ref (gA g 41)) rfl dX5_feed_46 ?_
        refine lv_iload_n C.1.1 C.1.2.1 dX5_feed_49 rfl (lv_at hl 2 rfl) ?_
        refine lv_bipush (v := 8) C.1.1 C.1.2.1 dX5_feed_50 rfl ?_
        refine lv_iload_n C.1.1 C.1.2.1 dX5_feed_52 rfl (lv_at hl 0 rfl) ?_
        refine lv_imul C.1.1 C.1.2.1 dX5_feed_53 ?_
        refine lv_topE 8 (by decide) ?_
        refine lv_iushr (v := (x.toUInt32 >>> ((8 : Int32).toUInt32 &&& Int32.toUInt32 31)).toInt32) C.1.1 C.1.2.1 dX5_feed_54 rfl ?_
        refine lv_i2b (v := ((x.toUInt32 >>> ((8 : Int32).toUInt32 &&& Int32.toUInt32 31)).toInt32).toInt8.toInt32) C.1.1 C.1.2.1 dX5_feed_55 rfl ?_
        refine lv_topE (ubyte x 1) rfl ?_
        refine a_G hS (run_V C hP hS hl.1 41 3 (Nat.lt_of_lt_of_le (by decide) hn) rfl (by decide) rfl [.int (ubyte x 1)] (kX3_append l g n v T hT2 (by omega) (ubyte x 1) (ub8 _ _)) gX5_feed_X3_append rfl hdX3_append rfl ⟨rfl, rfl⟩ ⟨Nat.le_of_ble_eq_true rfl, Nat.le_of_ble_eq_true rfl⟩ rfl [] rfl (Nat.le_of_ble_eq_true rfl) dX5_feed_56 ⟨Nat.zero_le _, Nat.zero_le _⟩) (fun H locs hP hS => ?_)
        refine lv_iinc (v := 0) (lv' := [(3, .int 0), (0, .ref (gA g 0)), (1, .int x), (2, .int 2)]) C.1.1 C.1.2.1 dX5_feed_59 hl (k := 0) rfl (by decide) (by decide) rfl (fun ls hl => ?_)
        refine lv_goto (tgt := 41) C.1.1 C.1.2.1 dX5_feed_62 (by decide) ?_
        refine lv_iload_n C.1.1 C.1.2.1 dX5_feed_41 rfl (lv_at hl 0 rfl) ?_
        refine lv_if_lt (tgt := 65) C.1.1 C.1.2.1 dX5_feed_42 (by decide) (fun c_7 => absurd c_7 (by decide)) (fun _ => ?_)
        refine lv_aload_n C.1.1 C.1.2.1 dX5_feed_45 rfl (lv_at hl 1 rfl) ?_
        refine r_get C hP 0 5 (Nat.lt_of_lt_of_le (by decide) hn) rfl (by decide) rfl hi5 5 (by decide) (List.mem_of_getElem? (i := 2) rfl) rfl (val := .ref (gA g 41)) rfl dX5_feed_46 ?_
        refine lv_iload_n C.1.1 C.1.2.1 dX5_feed_49 rfl (lv_at hl 2 rfl) ?_
        refine lv_bipush (v := 8) C.1.1 C.1.2.1 dX5_feed_50 rfl ?_
        refine lv_iload_n C.1.1 C.1.2.1 dX5_feed_52 rfl (lv_at hl 0 rfl) ?_
        refine lv_imul C.1.1 C.1.2.1 dX5_feed_53 ?_
        refine lv_topE 0 (by decide) ?_
        refine lv_iushr (v := (x.toUInt32 >>> ((0 : Int32).toUInt32 &&& Int32.toUInt32 31)).toInt32) C.1.1 C.1.2.1 dX5_feed_54 rfl ?_
        refine lv_i2b (v := ((x.toUInt32 >>> ((0 : Int32).toUInt32 &&& Int32.toUInt32 31)).toInt32).toInt8.toInt32) C.1.1 C.1.2.1 dX5_feed_55 rfl ?_
        refine lv_topE (ubyte x 0) rfl ?_
        refine a_G hS (run_V C hP hS hl.1 41 3 (Nat.lt_of_lt_of_le (by decide) hn) rfl (by decide) rfl [.int (ubyte x 0)] (kX3_append l g n (up (up v 42 T (ubyte x 1)) 41 1 (nI (T + 1))) (T + 1) (upup _ _ _ _) (by omega) (ubyte x 0) (ub8 _ _)) gX5_feed_X3_append rfl hdX3_append rfl ⟨rfl, rfl⟩ ⟨Nat.le_of_ble_eq_true rfl, Nat.le_of_ble_eq_true rfl⟩ rfl [] rfl (Nat.le_of_ble_eq_true rfl) dX5_feed_56 ⟨Nat.zero_le _, Nat.zero_le _⟩) (fun H locs hP hS => ?_)
        refine lv_iinc (v := (-1)) (lv' := [(3, .int (-1)), (0, .ref (gA g 0)), (1, .int x), (2, .int 2)]) C.1.1 C.1.2.1 dX5_feed_59 hl (k := 0) rfl (by decide) (by decide) rfl (fun ls hl => ?_)
        refine lv_goto (tgt := 41) C.1.1 C.1.2.1 dX5_feed_62 (by decide) ?_
        refine lv_iload_n C.1.1 C.1.2.1 dX5_feed_41 rfl (lv_at hl 0 rfl) ?_
        refine lv_if_lt (tgt := 65) C.1.1 C.1.2.1 dX5_feed_42 (by decide) (fun _ => ?_) (fun c_8 => absurd c_8 (by decide))
        refine lv_aload_n C.1.1 C.1.2.1 dX5_feed_65 rfl (lv_at hl 1 rfl) ?_
        refine r_get C hP 0 5 (Nat.lt_of_lt_of_le (by decide) hn) rfl (by decide) rfl hi5 5 (by decide) (List.mem_of_getElem? (i := 2) rfl) rfl (val := .ref (gA g 41)) rfl dX5_feed_66 ?_
        refine r_get C hP 41 3 (Nat.lt_of_lt_of_le (by decide) hn) rfl (by decide) rfl hi3 1 (by decide) (List.mem_of_getElem? (i := 3) rfl) rfl (val := .int ((up (up (up (up v 42 T (ubyte x 1)) 41 1 (nI (T + 1))) 42 (T + 1) (ubyte x 0)) 41 1 (nI (T + 1 + 1))).1 41 1)) rfl dX5_feed_69 ?_
        refine lv_topE (nI (T + 2)) (upup _ _ _ _) ?_
        exact t_P C rfl hP hS (ps_to (show feedM (up (up (up (up v 42 T (ubyte x 1)) 41 1 (nI (T + 1))) 42 (T + 1) (ubyte x 0)) 41 1 (nI (T + 1 + 1))) x (nI 2) = (nI (T + 2), ffM (up (up (up (up v 42 T (ubyte x 1)) 41 1 (nI (T + 1))) 42 (T + 1) (ubyte x 0)) 41 1 (nI (T + 1 + 1))) x T 2) from by simp only [feedM, cif_pos kb_1, tn_nI (show 2 < 2 ^ 31 by decide), show (up (up (up (up v 42 T (ubyte x 1)) 41 1 (nI (T + 1))) 42 (T + 1) (ubyte x 0)) 41 1 (nI (T + 1 + 1))).1 53 7 = nI T from (congrFun (((upw_ne _ _ (by decide)).trans ((upw_ne _ _ (by decide)).trans ((upw_ne _ _ (by decide)).trans (upw_ne _ _ (by decide)))))) _).trans hT1, tn_nI (show T < 2 ^ 31 by omega), if_pos c_3]) rfl (Rl_feed (x := x) (T := T) (k := 2) hR (by decide) (by omega) hT1)) (rsc_trans (rsc_trans (rsc_trans (rsc_trans (rsc_rfl v) (rsc_w _ _ (by omega))) (rsc_w _ _ (by omega))) (rsc_w _ _ (by omega))) (rsc_w _ _ (by omega))) dX5_feed_72
      rcases hj4 with rfl | hj4
      · skip
        rw [show nI 3 = 3 from rfl] at hl
        refine lv_iload_n C.1.1 C.1.2.1 dX5_feed_37 rfl (lv_at hl 2 rfl) ?_
        refine lv_iconst (v := 1) C.1.1 C.1.2.1 dX5_feed_38 rfl ?_
        refine lv_isub C.1.1 C.1.2.1 dX5_feed_39 ?_
        refine lv_topE 2 (by decide) ?_
        refine lv_istore_n (lv' := [(3, .int 2), (0, .ref (gA g 0)), (1, .int x), (2, .int 3)]) C.1.1 C.1.2.1 dX5_feed_40 rfl hl (by decide) rfl (fun ls hl => ?_)
        refine lv_iload_n C.1.1 C.1.2.1 dX5_feed_41 rfl (lv_at hl 0 rfl) ?_
        refine lv_if_lt (tgt := 65) C.1.1 C.1.2.1 dX5_feed_42 (by decide) (fun c_9 => absurd c_9 (by decide)) (fun _ => ?_)
        refine lv_aload_n C.1.1 C.1.2.1 dX5_feed_45 rfl (lv_at hl 1 rfl) ?_
        refine r_get C hP 0 5 (Nat.lt_of_lt_of_le (by decide) hn) rfl (by decide) rfl hi5 5 (by decide) (List.mem_of_getElem? (i := 2) rfl) rfl (val := .ref (gA g 41)) rfl dX5_feed_46 ?_
        refine lv_iload_n C.1.1 C.1.2.1 dX5_feed_49 rfl (lv_at hl 2 rfl) ?_
        refine lv_bipush (v := 8) C.1.1 C.1.2.1 dX5_feed_50 rfl ?_
        refine lv_iload_n C.1.1 C.1.2.1 dX5_feed_52 rfl (lv_at hl 0 rfl) ?_
        refine lv_imul C.1.1 C.1.2.1 dX5_feed_53 ?_
        refine lv_topE 16 (by decide) ?_
        refine lv_iushr (v := (x.toUInt32 >>> ((16 : Int32).toUInt32 &&& Int32.toUInt32 31)).toInt32) C.1.1 C.1.2.1 dX5_feed_54 rfl ?_
        refine lv_i2b (v := ((x.toUInt32 >>> ((16 : Int32).toUInt32 &&& Int32.toUInt32 31)).toInt32).toInt8.toInt32) C.1.1 C.1.2.1 dX5_feed_55 rfl ?_
        refine lv_topE (ubyte x 2) rfl ?_
        refine a_G hS (run_V C hP hS hl.1 41 3 (Nat.lt_of_lt_of_le (by decide) hn) rfl (by decide) rfl [.int (ubyte x 2)] (kX3_append l g n v T hT2 (by omega) (ubyte x 2) (ub8 _ _)) gX5_feed_X3_append rfl hdX3_append rfl ⟨rfl, rfl⟩ ⟨Nat.le_of_ble_eq_true rfl, Nat.le_of_ble_eq_true rfl⟩ rfl [] rfl (Nat.le_of_ble_eq_true rfl) dX5_feed_56 ⟨Nat.zero_le _, Nat.zero_le _⟩) (fun H locs hP hS => ?_)
        refine lv_iinc (v := 1) (lv' := [(3, .int 1), (0, .ref (gA g 0)), (1, .int x), (2, .int 3)]) C.1.1 C.1.2.1 dX5_feed_59 hl (k := 0) rfl (by decide) (by decide) rfl (fun ls hl => ?_)
        refine lv_goto (tgt := 41) C.1.1 C.1.2.1 dX5_feed_62 (by decide) ?_
        refine lv_iload_n C.1.1 C.1.2.1 dX5_feed_41 rfl (lv_at hl 0 rfl) ?_
        refine lv_if_lt (tgt := 65) C.1.1 C.1.2.1 dX5_feed_42 (by decide) (fun c_10 => absurd c_10 (by decide)) (fun _ => ?_)
        refine lv_aload_n C.1.1 C.1.2.1 dX5_feed_45 rfl (lv_at hl 1 rfl) ?_
        refine r_get C hP 0 5 (Nat.lt_of_lt_of_le (by decide) hn) rfl (by decide) rfl hi5 5 (by decide) (List.mem_of_getElem? (i := 2) rfl) rfl (val := .ref (gA g 41)) rfl dX5_feed_46 ?_
        refine lv_iload_n C.1.1 C.1.2.1 dX5_feed_49 rfl (lv_at hl 2 rfl) ?_
        refine lv_bipush (v := 8) C.1.1 C.1.2.1 dX5_feed_50 rfl ?_
        refine lv_iload_n C.1.1 C.1.2.1 dX5_feed_52 rfl (lv_at hl 0 rfl) ?_
        refine lv_imul C.1.1 C.1.2.1 dX5_feed_53 ?_
        refine lv_topE 8 (by decide) ?_
        refine lv_iushr (v := (x.toUInt32 >>> ((8 : Int32).toUInt32 &&& Int32.toUInt32 31)).toInt32) C.1.1 C.1.2.1 dX5_feed_54 rfl ?_
        refine lv_i2b (v := ((x.toUInt32 >>> ((8 : Int32).toUInt32 &&& Int32.toUInt32 31)).toInt32).toInt8.toInt32) C.1.1 C.1.2.1 dX5_feed_55 rfl ?_
        refine lv_topE (ubyte x 1) rfl ?_
        refine a_G hS (run_V C hP hS hl.1 41 3 (Nat.lt_of_lt_of_le (by decide) hn) rfl (by decide) rfl [.int (ubyte x 1)] (kX3_append l g n (up (up v 42 T (ubyte x 2)) 41 1 (nI (T + 1))) (T + 1) (upup _ _ _ _) (by omega) (ubyte x 1) (ub8 _ _)) gX5_feed_X3_append rfl hdX3_append rfl ⟨rfl, rfl⟩ ⟨Nat.le_of_ble_eq_true rfl, Nat.le_of_ble_eq_true rfl⟩ rfl [] rfl (Nat.le_of_ble_eq_true rfl) dX5_feed_56 ⟨Nat.zero_le _, Nat.zero_le _⟩) (fun H locs hP hS => ?_)
        refine lv_iinc (v := 0) (lv' := [(3, .int 0), (0, .ref (gA g 0)), (1, .int x), (2, .int 3)]) C.1.1 C.1.2.1 dX5_feed_59 hl (k := 0) rfl (by decide) (by decide) rfl (fun ls hl => ?_)
        refine lv_goto (tgt := 41) C.1.1 C.1.2.1 dX5_feed_62 (by decide) ?_
        refine lv_iload_n C.1.1 C.1.2.1 dX5_feed_41 rfl (lv_at hl 0 rfl) ?_
        refine lv_if_lt (tgt := 65) C.1.1 C.1.2.1 dX5_feed_42 (by decide) (fun c_11 => absurd c_11 (by decide)) (fun _ => ?_)
        refine lv_aload_n C.1.1 C.1.2.1 dX5_feed_45 rfl (lv_at hl 1 rfl) ?_
        refine r_get C hP 0 5 (Nat.lt_of_lt_of_le (by decide) hn) rfl (by decide) rfl hi5 5 (by decide) (List.mem_of_getElem? (i := 2) rfl) rfl (val := .ref (gA g 41)) rfl dX5_feed_46 ?_
        refine lv_iload_n C.1.1 C.1.2.1 dX5_feed_49 rfl (lv_at hl 2 rfl) ?_
        refine lv_bipush (v := 8) C.1.1 C.1.2.1 dX5_feed_50 rfl ?_
        refine lv_iload_n C.1.1 C.1.2.1 dX5_feed_52 rfl (lv_at hl 0 rfl) ?_
        refine lv_imul C.1.1 C.1.2.1 dX5_feed_53 ?_
        refine lv_topE 0 (by decide) ?_
        refine lv_iushr (v := (x.toUInt32 >>> ((0 : Int32).toUInt32 &&& Int32.toUInt32 31)).toInt32) C.1.1 C.1.2.1 dX5_feed_54 rfl ?_
        refine lv_i2b (v := ((x.toUInt32 >>> ((0 : Int32).toUInt32 &&& Int32.toUInt32 31)).toInt32).toInt8.toInt32) C.1.1 C.1.2.1 dX5_feed_55 rfl ?_
        refine lv_topE (ubyte x 0) rfl ?_
        refine a_G hS (run_V C hP hS hl.1 41 3 (Nat.lt_of_lt_of_le (by decide) hn) rfl (by decide) rfl [.int (ubyte x 0)] (kX3_append l g n (up (up (up (up v 42 T (ubyte x 2)) 41 1 (nI (T + 1))) 42 (T + 1) (ubyte x 1)) 41 1 (nI (T + 1 + 1))) (T + 1 + 1) (upup _ _ _ _) (by omega) (ubyte x 0) (ub8 _ _)) gX5_feed_X3_append rfl hdX3_append rfl ⟨rfl, rfl⟩ ⟨Nat.le_of_ble_eq_true rfl, Nat.le_of_ble_eq_true rfl⟩ rfl [] rfl (Nat.le_of_ble_eq_true rfl) dX5_feed_56 ⟨Nat.zero_le _, Nat.zero_le _⟩) (fun H locs hP hS => ?_)
        refine lv_iinc (v := (-1)) (lv' := [(3, .int (-1)), (0, .ref (gA g 0)), (1, .int x), (2, .int 3)]) C.1.1 C.1.2.1 dX5_feed_59 hl (k := 0) rfl (by decide) (by decide) rfl (fun ls hl => ?_)
        refine lv_goto (tgt := 41) C.1.1 C.1.2.1 dX5_feed_62 (by decide) ?_
        refine lv_iload_n C.1.1 C.1.2.1 dX5_feed_41 rfl (lv_at hl 0 rfl) ?_
        refine lv_if_lt (tgt := 65) C.1.1 C.1.2.1 dX5_feed_42 (by decide) (fun _ => ?_) (fun c_12 => absurd c_12 (by decide))
        refine lv_aload_n C.1.1 C.1.2.1 dX5_feed_65 rfl (lv_at hl 1 rfl) ?_
        refine r_get C hP 0 5 (Nat.lt_of_lt_of_le (by decide) hn) rfl (by decide) rfl hi5 5 (by decide) (List.mem_of_getElem? (i := 2) rfl) rfl (val := .ref (gA g 41)) rfl dX5_feed_66 ?_
        refine r_get C hP 41 3 (Nat.lt_of_lt_of_le (by decide) hn) rfl (by decide) rfl hi3 1 (by decide) (List.mem_of_getElem? (i := 3) rfl) rfl (val := .int ((up (up (up (up (up (up v 42 T (ubyte x 2)) 41 1 (nI (T + 1))) 42 (T + 1) (ubyte x 1)) 41 1 (nI (T + 1 + 1))) 42 (T + 1 + 1) (ubyte x 0)) 41 1 (nI (T + 1 + 1 + 1))).1 41 1)) rfl dX5_feed_69 ?_
        refine lv_topE (nI (T + 3)) (upup _ _ _ _) ?_
        exact t_P C rfl hP hS (ps_to (show feedM (up (up (up (up (up (up v 42 T (ubyte x 2)) 41 1 (nI (T + 1))) 42 (T + 1) (ubyte x 1)) 41 1 (nI (T + 1 + 1))) 42 (T + 1 + 1) (ubyte x 0)) 41 1 (nI (T + 1 + 1 + 1))) x (nI 3) = (nI (T + 3), ffM (up (up (up (up (up (up v 42 T (ubyte x 2)) 41 1 (nI (T + 1))) 42 (T + 1) (ubyte x 1)) 41 1 (nI (T + 1 + 1))) 42 (T + 1 + 1) (ubyte x 0)) 41 1 (nI (T + 1 + 1 + 1))) x T 3) from by simp only [feedM, cif_pos kb_1, tn_nI (show 3 < 2 ^ 31 by decide), show (up (up (up (up (up (up v 42 T (ubyte x 2)) 41 1 (nI (T + 1))) 42 (T + 1) (ubyte x 1)) 41 1 (nI (T + 1 + 1))) 42 (T + 1 + 1) (ubyte x 0)) 41 1 (nI (T + 1 + 1 + 1))).1 53 7 = nI T from (congrFun (((upw_ne _ _ (by decide)).trans ((upw_ne _ _ (by decide)).trans ((upw_ne _ _ (by decide)).trans ((upw_ne _ _ (by decide)).trans ((upw_ne _ _ (by decide)).trans (upw_ne _ _ (by decide)))))))) _).trans hT1, tn_nI (show T < 2 ^ 31 by omega), if_pos c_3]) rfl (Rl_feed (x := x) (T := T) (k := 3) hR (by decide) (by omega) hT1)) (rsc_trans (rsc_trans (rsc_trans (rsc_trans (rsc_trans (rsc_trans (rsc_rfl v) (rsc_w _ _ (by omega))) (rsc_w _ _ (by omega))) (rsc_w _ _ (by omega))) (rsc_w _ _ (by omega))) (rsc_w _ _ (by omega))) (rsc_w _ _ (by omega))) dX5_feed_72
      subst hj4
      rw [show nI 4 = 4 from rfl] at hl
      refine lv_iload_n C.1.1 C.1.2.1 dX5_feed_37 rfl (lv_at hl 2 rfl) ?_
      refine lv_iconst (v := 1) C.1.1 C.1.2.1 dX5_feed_38 rfl ?_
      refine lv_isub C.1.1 C.1.2.1 dX5_feed_39 ?_
      refine lv_topE 3 (by decide) ?_
      refine lv_istore_n (lv' := [(3, .int 3), (0, .ref (gA g 0)), (1, .int x), (2, .int 4)]) C.1.1 C.1.2.1 dX5_feed_40 rfl hl (by decide) rfl (fun ls hl => ?_)
      refine lv_iload_n C.1.1 C.1.2.1 dX5_feed_41 rfl (lv_at hl 0 rfl) ?_
      refine lv_if_lt (tgt := 65) C.1.1 C.1.2.1 dX5_feed_42 (by decide) (fun c_13 => absurd c_13 (by decide)) (fun _ => ?_)
      refine lv_aload_n C.1.1 C.1.2.1 dX5_feed_45 rfl (lv_at hl 1 rfl) ?_
      refine r_get C hP 0 5 (Nat.lt_of_lt_of_le (by decide) hn) rfl (by decide) rfl hi5 5 (by decide) (List.mem_of_getElem? (i := 2) rfl) rfl (val := .ref (gA g 41)) rfl dX5_feed_46 ?_
      refine lv_iload_n C.1.1 C.1.2.1 dX5_feed_49 rfl (lv_at hl 2 rfl) ?_
      refine lv_bipush (v := 8) C.1.1 C.1.2.1 dX5_feed_50 rfl ?_
      refine lv_iload_n C.1.1 C.1.2.1 dX5_feed_52 rfl (lv_at hl 0 rfl) ?_
      refine lv_imul C.1.1 C.1.2.1 dX5_feed_53 ?_
      refine lv_topE 24 (by decide) ?_
      refine lv_iushr (v := (x.toUInt32 >>> ((24 : Int32).toUInt32 &&& Int32.toUInt32 31)).toInt32) C.1.1 C.1.2.1 dX5_feed_54 rfl ?_
      refine lv_i2b (v := ((x.toUInt32 >>> ((24 : Int32).toUInt32 &&& Int32.toUInt32 31)).toInt32).toInt8.toInt32) C.1.1 C.1.2.1 dX5_feed_55 rfl ?_
      refine lv_topE (ubyte x 3) rfl ?_
      refine a_G hS (run_V C hP hS hl.1 41 3 (Nat.lt_of_lt_of_le (by decide) hn) rfl (by decide) rfl [.int (ubyte x 3)] (kX3_append l g n v T hT2 (by omega) (ubyte x 3) (ub8 _ _)) gX5_feed_X3_append rfl hdX3_append rfl ⟨rfl, rfl⟩ ⟨Nat.le_of_ble_eq_true rfl, Nat.le_of_ble_eq_true rfl⟩ rfl [] rfl (Nat.le_of_ble_eq_true rfl) dX5_feed_56 ⟨Nat.zero_le _, Nat.zero_le _⟩) (fun H locs hP hS => ?_)
      refine lv_iinc (v := 2) (lv' := [(3, .int 2), (0, .ref (gA g 0)), (1, .int x), (2, .int 4)]) C.1.1 C.1.2.1 dX5_feed_59 hl (k := 0) rfl (by decide) (by decide) rfl (fun ls hl => ?_)
      refine lv_goto (tgt := 41) C.1.1 C.1.2.1 dX5_feed_62 (by decide) ?_
      refine lv_iload_n C.1.1 C.1.2.1 dX5_feed_41 rfl (lv_at hl 0 rfl) ?_
      refine lv_if_lt (tgt := 65) C.1.1 C.1.2.1 dX5_feed_42 (by decide) (fun c_14 => absurd c_14 (by decide)) (fun _ => ?_)
      refine lv_aload_n C.1.1 C.1.2.1 dX5_feed_45 rfl (lv_at hl 1 rfl) ?_
      refine r_get C hP 0 5 (Nat.lt_of_lt_of_le (by decide) hn) rfl (by decide) rfl hi5 5 (by decide) (List.mem_of_getElem? (i := 2) rfl) rfl (val := .ref (gA g 41)) rfl dX5_feed_46 ?_
      refine lv_iload_n C.1.1 C.1.2.1 dX5_feed_49 rfl (lv_at hl 2 rfl) ?_
      refine lv_bipush (v := 8) C.1.1 C.1.2.1 dX5_feed_50 rfl ?_
      refine lv_iload_n C.1.1 C.1.2.1 dX5_feed_52 rfl (lv_at hl 0 rfl) ?_
      refine lv_imul C.1.1 C.1.2.1 dX5_feed_53 ?_
      refine lv_topE 16 (by decide) ?_
      refine lv_iushr (v := (x.toUInt32 >>> ((16 : Int32).toUInt32 &&& Int32.toUInt32 31)).toInt32) C.1.1 C.1.2.1 dX5_feed_54 rfl ?_
      refine lv_i2b (v := ((x.toUInt32 >>> ((16 : Int32).toUInt32 &&& Int32.toUInt32 31)).toInt32).toInt8.toInt32) C.1.1 C.1.2.1 dX5_feed_55 rfl ?_
      refine lv_topE (ubyte x 2) rfl ?_
      refine a_G hS (run_V C hP hS hl.1 41 3 (Nat.lt_of_lt_of_le (by decide) hn) rfl (by decide) rfl [.int (ubyte x 2)] (kX3_append l g n (up (up v 42 T (ubyte x 3)) 41 1 (nI (T + 1))) (T + 1) (upup _ _ _ _) (by omega) (ubyte x 2) (ub8 _ _)) gX5_feed_X3_append rfl hdX3_append rfl ⟨rfl, rfl⟩ ⟨Nat.le_of_ble_eq_true rfl, Nat.le_of_ble_eq_true rfl⟩ rfl [] rfl (Nat.le_of_ble_eq_true rfl) dX5_feed_56 ⟨Nat.zero_le _, Nat.zero_le _⟩) (fun H locs hP hS => ?_)
      refine lv_iinc (v := 1) (lv' := [(3, .int 1), (0, .ref (gA g 0)), (1, .int x), (2, .int 4)]) C.1.1 C.1.2.1 dX5_feed_59 hl (k := 0) rfl (by decide) (by decide) rfl (fun ls hl => ?_)
      refine lv_goto (tgt := 41) C.1.1 C.1.2.1 dX5_feed_62 (by decide) ?_
      refine lv_iload_n C.1.1 C.1.2.1 dX5_feed_41 rfl (lv_at hl 0 rfl) ?_
      refine lv_if_lt (tgt := 65) C.1.1 C.1.2.1 dX5_feed_42 (by decide) (fun c_15 => absurd c_15 (by decide)) (fun _ => ?_)
      refine lv_aload_n C.1.1 C.1.2.1 dX5_feed_45 rfl (lv_at hl 1 rfl) ?_
      refine r_get C hP 0 5 (Nat.lt_of_lt_of_le (by decide) hn) rfl (by decide) rfl hi5 5 (by decide) (List.mem_of_getElem? (i := 2) rfl) rfl (val := .ref (gA g 41)) rfl dX5_feed_46 ?_
      refine lv_iload_n C.1.1 C.1.2.1 dX5_feed_49 rfl (lv_at hl 2 rfl) ?_
      refine lv_bipush (v := 8) C.1.1 C.1.2.1 dX5_feed_50 rfl ?_
      refine lv_iload_n C.1.1 C.1.2.1 dX5_feed_52 rfl (lv_at hl 0 rfl) ?_
      refine lv_imul C.1.1 C.1.2.1 dX5_feed_53 ?_
      refine lv_topE 8 (by decide) ?_
      refine lv_iushr (v := (x.toUInt32 >>> ((8 : Int32).toUInt32 &&& Int32.toUInt32 31)).toInt32) C.1.1 C.1.2.1 dX5_feed_54 rfl ?_
      refine lv_i2b (v := ((x.toUInt32 >>> ((8 : Int32).toUInt32 &&& Int32.toUInt32 31)).toInt32).toInt8.toInt32) C.1.1 C.1.2.1 dX5_feed_55 rfl ?_
      refine lv_topE (ubyte x 1) rfl ?_
      refine a_G hS (run_V C hP hS hl.1 41 3 (Nat.lt_of_lt_of_le (by decide) hn) rfl (by decide) rfl [.int (ubyte x 1)] (kX3_append l g n (up (up (up (up v 42 T (ubyte x 3)) 41 1 (nI (T + 1))) 42 (T + 1) (ubyte x 2)) 41 1 (nI (T + 1 + 1))) (T + 1 + 1) (upup _ _ _ _) (by omega) (ubyte x 1) (ub8 _ _)) gX5_feed_X3_append rfl hdX3_append rfl ⟨rfl, rfl⟩ ⟨Nat.le_of_ble_eq_true rfl, Nat.le_of_ble_eq_true rfl⟩ rfl [] rfl (Nat.le_of_ble_eq_true rfl) dX5_feed_56 ⟨Nat.zero_le _, Nat.zero_le _⟩) (fun H locs hP hS => ?_)
      refine lv_iinc (v := 0) (lv' := [(3, .int 0), (0, .ref (gA g 0)), (1, .int x), (2, .int 4)]) C.1.1 C.1.2.1 dX5_feed_59 hl (k := 0) rfl (by decide) (by decide) rfl (fun ls hl => ?_)
      refine lv_goto (tgt := 41) C.1.1 C.1.2.1 dX5_feed_62 (by decide) ?_
      refine lv_iload_n C.1.1 C.1.2.1 dX5_feed_41 rfl (lv_at hl 0 rfl) ?_
      refine lv_if_lt (tgt := 65) C.1.1 C.1.2.1 dX5_feed_42 (by decide) (fun c_16 => absurd c_16 (by decide)) (fun _ => ?_)
      refine lv_aload_n C.1.1 C.1.2.1 dX5_feed_45 rfl (lv_at hl 1 rfl) ?_
      refine r_get C hP 0 5 (Nat.lt_of_lt_of_le (by decide) hn) rfl (by decide) rfl hi5 5 (by decide) (List.mem_of_getElem? (i := 2) rfl) rfl (val := .ref (gA g 41)) rfl dX5_feed_46 ?_
      refine lv_iload_n C.1.1 C.1.2.1 dX5_feed_49 rfl (lv_at hl 2 rfl) ?_
      refine lv_bipush (v := 8) C.1.1 C.1.2.1 dX5_feed_50 rfl ?_
      refine lv_iload_n C.1.1 C.1.2.1 dX5_feed_52 rfl (lv_at hl 0 rfl) ?_
      refine lv_imul C.1.1 C.1.2.1 dX5_feed_53 ?_
      refine lv_topE 0 (by decide) ?_
      refine lv_iushr (v := (x.toUInt32 >>> ((0 : Int32).toUInt32 &&& Int32.toUInt32 31)).toInt32) C.1.1 C.1.2.1 dX5_feed_54 rfl ?_
      refine lv_i2b (v := ((x.toUInt32 >>> ((0 : Int32).toUInt32 &&& Int32.toUInt32 31)).toInt32).toInt8.toInt32) C.1.1 C.1.2.1 dX5_feed_55 rfl ?_
      refine lv_topE (ubyte x 0) rfl ?_
      refine a_G hS (run_V C hP hS hl.1 41 3 (Nat.lt_of_lt_of_le (by decide) hn) rfl (by decide) rfl [.int (ubyte x 0)] (kX3_append l g n (up (up (up (up (up (up v 42 T (ubyte x 3)) 41 1 (nI (T + 1))) 42 (T + 1) (ubyte x 2)) 41 1 (nI (T + 1 + 1))) 42 (T + 1 + 1) (ubyte x 1)) 41 1 (nI (T + 1 + 1 + 1))) (T + 1 + 1 + 1) (upup _ _ _ _) (by omega) (ubyte x 0) (ub8 _ _)) gX5_feed_X3_append rfl hdX3_append rfl ⟨rfl, rfl⟩ ⟨Nat.le_of_ble_eq_true rfl, Nat.le_of_ble_eq_true rfl⟩ rfl [] rfl (Nat.le_of_ble_eq_true rfl) dX5_feed_56 ⟨Nat.zero_le _, Nat.zero_le _⟩) (fun H locs hP hS => ?_)
      refine lv_iinc (v := (-1)) (lv' := [(3, .int (-1)), (0, .ref (gA g 0)), (1, .int x), (2, .int 4)]) C.1.1 C.1.2.1 dX5_feed_59 hl (k := 0) rfl (by decide) (by decide) rfl (fun ls hl => ?_)
      refine lv_goto (tgt := 41) C.1.1 C.1.2.1 dX5_feed_62 (by decide) ?_
      refine lv_iload_n C.1.1 C.1.2.1 dX5_feed_41 rfl (lv_at hl 0 rfl) ?_
      refine lv_if_lt (tgt := 65) C.1.1 C.1.2.1 dX5_feed_42 (by decide) (fun _ => ?_) (fun c_17 => absurd c_17 (by decide))
      refine lv_aload_n C.1.1 C.1.2.1 dX5_feed_65 rfl (lv_at hl 1 rfl) ?_
      refine r_get C hP 0 5 (Nat.lt_of_lt_of_le (by decide) hn) rfl (by decide) rfl hi5 5 (by decide) (List.mem_of_getElem? (i := 2) rfl) rfl (val := .ref (gA g 41)) rfl dX5_feed_66 ?_
      refine r_get C hP 41 3 (Nat.lt_of_lt_of_le (by decide) hn) rfl (by decide) rfl hi3 1 (by decide) (List.mem_of_getElem? (i := 3) rfl) rfl (val := .int ((up (up (up (up (up (up (up (up v 42 T (ubyte x 3)) 41 1 (nI (T + 1))) 42 (T + 1) (ubyte x 2)) 41 1 (nI (T + 1 + 1))) 42 (T + 1 + 1) (ubyte x 1)) 41 1 (nI (T + 1 + 1 + 1))) 42 (T + 1 + 1 + 1) (ubyte x 0)) 41 1 (nI (T + 1 + 1 + 1 + 1))).1 41 1)) rfl dX5_feed_69 ?_
      refine lv_topE (nI (T + 4)) (upup _ _ _ _) ?_
      exact t_P C rfl hP hS (ps_to (show feedM (up (up (up (up (up (up (up (up v 42 T (ubyte x 3)) 41 1 (nI (T + 1))) 42 (T + 1) (ubyte x 2)) 41 1 (nI (T + 1 + 1))) 42 (T + 1 + 1) (ubyte x 1)) 41 1 (nI (T + 1 + 1 + 1))) 42 (T + 1 + 1 + 1) (ubyte x 0)) 41 1 (nI (T + 1 + 1 + 1 + 1))) x (nI 4) = (nI (T + 4), ffM (up (up (up (up (up (up (up (up v 42 T (ubyte x 3)) 41 1 (nI (T + 1))) 42 (T + 1) (ubyte x 2)) 41 1 (nI (T + 1 + 1))) 42 (T + 1 + 1) (ubyte x 1)) 41 1 (nI (T + 1 + 1 + 1))) 42 (T + 1 + 1 + 1) (ubyte x 0)) 41 1 (nI (T + 1 + 1 + 1 + 1))) x T 4) from by simp only [feedM, cif_pos kb_1, tn_nI (show 4 < 2 ^ 31 by decide), show (up (up (up (up (up (up (up (up v 42 T (ubyte x 3)) 41 1 (nI (T + 1))) 42 (T + 1) (ubyte x 2)) 41 1 (nI (T + 1 + 1))) 42 (T + 1 + 1) (ubyte x 1)) 41 1 (nI (T + 1 + 1 + 1))) 42 (T + 1 + 1 + 1) (ubyte x 0)) 41 1 (nI (T + 1 + 1 + 1 + 1))).1 53 7 = nI T from (congrFun (((upw_ne _ _ (by decide)).trans ((upw_ne _ _ (by decide)).trans ((upw_ne _ _ (by decide)).trans ((upw_ne _ _ (by decide)).trans ((upw_ne _ _ (by decide)).trans ((upw_ne _ _ (by decide)).trans ((upw_ne _ _ (by decide)).trans (upw_ne _ _ (by decide)))))))))) _).trans hT1, tn_nI (show T < 2 ^ 31 by omega), if_pos c_3]) rfl (Rl_feed (x := x) (T := T) (k := 4) hR (by decide) (by omega) hT1)) (rsc_trans (rsc_trans (rsc_trans (rsc_trans (rsc_trans (rsc_trans (rsc_trans (rsc_trans (rsc_rfl v) (rsc_w _ _ (by omega))) (rsc_w _ _ (by omega))) (rsc_w _ _ (by omega))) (rsc_w _ _ (by omega))) (rsc_w _ _ (by omega))) (rsc_w _ _ (by omega))) (rsc_w _ _ (by omega))) (rsc_w _ _ (by omega))) dX5_feed_72
    · rw [show (nI (T + jy) ≤ 120) = (T + jy ≤ 120) from propext (nI_leI (a := T + jy) (b := 120) (by omega) (by omega))] at c_3
      refine lv_aload_n C.1.1 C.1.2.1 dX5_feed_30 rfl (lv_at hl 0 rfl) ?_
      refine lv_ldc (v := (-1000002)) C.1.1 C.1.2.1 C.1.2.2.2.1 (C.1.2.2.2.2 _ (List.mem_of_getElem? (i := 4) rfl)) dX5_feed_31 ?_
      refine a_F hS (run_V C hP hS hl.1 0 5 (Nat.lt_of_lt_of_le (by decide) hn) rfl (by decide) rfl [.int (-1000002)] (kX5_finding l g n v 1 (by decide) (-1000002) rfl) gX5_feed_X5_finding rfl hdX5_finding rfl ⟨rfl, rfl⟩ ⟨Nat.le_of_ble_eq_true rfl, Nat.le_of_ble_eq_true rfl⟩ rfl [] rfl (Nat.le_of_ble_eq_true rfl) dX5_feed_33 ⟨Nat.zero_le _, Nat.zero_le _⟩) (fun H locs hP hS => ?_)
      have e54_18 : (fnC v 1).1 54 = v.1 54 := (upw_ne _ _ (by decide))
      exact t_P C rfl hP hS (ps_fd (f := fun u => feedM u x (nI jy)) hR (sam_rfl v) (by decide) (by simp only [feedM, nM_of e54_18 hM, e54_18, cif_pos kb_1, if_neg c_3, tn_nI (show jy < 2 ^ 31 by omega), show (fnC v 1).1 53 7 = nI T from (congrFun ((upw_ne _ _ (by decide))) _).trans hT1, tn_nI (show T < 2 ^ 31 by omega)]) rfl) (rsc_trans (rsc_rfl v) (rsc_w _ _ (by decide))) dX5_feed_36
  · skip
    have b_1 := fun h => b_1 ((in_iffC2 1 5 (by decide) (by decide) (by decide)).mpr h)
    refine lv_if_ne (tgt := 16) C.1.1 C.1.2.1 dX5_feed_6 (by decide) (fun c_19 => absurd c_19 (by decide)) (fun _ => ?_)
    refine lv_aload_n C.1.1 C.1.2.1 dX5_feed_9 rfl (lv_at hl 0 rfl) ?_
    refine lv_ldc (v := (-1000001)) C.1.1 C.1.2.1 C.1.2.2.2.1 (C.1.2.2.2.2 _ (List.mem_of_getElem? (i := 1) rfl)) dX5_feed_10 ?_
    refine a_F hS (run_V C hP hS hl.1 0 5 (Nat.lt_of_lt_of_le (by decide) hn) rfl (by decide) rfl [.int (-1000001)] (kX5_finding l g n v 0 (by decide) (-1000001) rfl) gX5_feed_X5_finding rfl hdX5_finding rfl ⟨rfl, rfl⟩ ⟨Nat.le_of_ble_eq_true rfl, Nat.le_of_ble_eq_true rfl⟩ rfl [] rfl (Nat.le_of_ble_eq_true rfl) dX5_feed_12 ⟨Nat.zero_le _, Nat.zero_le _⟩) (fun H locs hP hS => ?_)
    have e54_20 : (fnC v 0).1 54 = v.1 54 := (upw_ne _ _ (by decide))
    exact t_P C rfl hP hS (ps_fd (f := fun u => feedM u x y) hR (sam_rfl v) (by decide) (by simp only [feedM, nM_of e54_20 hM, e54_20, cif_neg b_1, show (fnC v 0).1 53 7 = nI T from (congrFun ((upw_ne _ _ (by decide))) _).trans hT1, tn_nI (show T < 2 ^ 31 by omega)]) rfl) (rsc_trans (rsc_rfl v) (rsc_w _ _ (by decide))) dX5_feed_15

