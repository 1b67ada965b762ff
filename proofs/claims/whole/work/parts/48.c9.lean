abbrev rmX5_earnsNothingWithout : Room := { frames := 6, cells := 0, slots := 0, locals := 133 }
set_option maxHeartbeats 4000000 in
set_option maxRecDepth 100000 in
theorem kX5_earnsNothingWithout (l : Launch) (g : GG) (n : Nat) (v : SV) (x : Int32) (q : Nat) (hq : q ≤ 20) (N : Nat) (hR : Rl v N) : Met l yX5_earnsNothingWithout wsX5_earnsNothingWithout rmX5_earnsNothingWithout (PW g n v [.ref (gA g 0), .int x, .int (nI q)]) (QU g n (daysM (awM (v.1 54) x N) q 6 = v.1 54 6) v) 0 0 (wA g n) := by
  refine Met.begin RX5 rfl (by decide) rfl (Nat.le_of_ble_eq_true rfl) ?_
  intro p e s m args below meth c ls ha C hP hS hl
  have hn : 64 ≤ n := C.2.1.1.2.1
  have hi0 : ∀ w ∈ u_ws RX0 TX0 6, w ∈ wsX5_earnsNothingWithout := by decide +kernel
  have hi2 : ∀ w ∈ u_ws RX2 TX2 11, w ∈ wsX5_earnsNothingWithout := by decide +kernel
  have hi5 : ∀ w ∈ u_ws RX5 TX5 8, w ∈ wsX5_earnsNothingWithout := by decide +kernel
  have hl : lv_has ls 4 [(0, .ref (gA g 0)), (1, .int x), (2, .int (nI q))] := hl
  have hC := hR.1.1
  have hA := hR.1.2
  have h8 := hC.1
  have hD : okC (v.1 54) N := okC_agr (agr_symm hA) hC
  have hM := okC_M hD
  refine lv_aload_n C.1.1 C.1.2.1 dX5_earnsNothingWithout_0 rfl (lv_at hl 0 rfl) ?_
  refine r_get C hP 0 5 (Nat.lt_of_lt_of_le (by decide) hn) rfl (by decide) rfl hi5 1 (by decide) (List.mem_of_getElem? (i := 1) rfl) rfl (val := .ref (gA g 14)) rfl dX5_earnsNothingWithout_1 ?_
  refine lv_aload_n C.1.1 C.1.2.1 dX5_earnsNothingWithout_4 rfl (lv_at hl 0 rfl) ?_
  refine r_get C hP 0 5 (Nat.lt_of_lt_of_le (by decide) hn) rfl (by decide) rfl hi5 0 (by decide) (List.mem_of_getElem? (i := 2) rfl) rfl (val := .ref (gA g 1)) rfl dX5_earnsNothingWithout_5 ?_
  refine a_G hS (run_V C hP hS hl.1 14 2 (Nat.lt_of_lt_of_le (by decide) hn) rfl (by decide) rfl [.ref (gA g 1)] (kX2_become l g n v v 14 (stR v 14) 1 N (Or.inr (Or.inl rfl)) (Or.inl rfl) (by decide) (st_self _ 14).symm (by rw [scr_1 (sam_rfl v).1]; exact hC)) gX5_earnsNothingWithout_X2_become rfl hdX2_become rfl ⟨rfl, rfl⟩ ⟨Nat.le_of_ble_eq_true rfl, Nat.le_of_ble_eq_true rfl⟩ rfl [] rfl (Nat.le_of_ble_eq_true rfl) dX5_earnsNothingWithout_8 ⟨Nat.zero_le _, Nat.zero_le _⟩) (fun H locs hP hS => ?_)
  obtain ⟨X_0, hX_0⟩ : ∃ zz, zz = becM (stR v 14) (stR v 1) N := ⟨_, rfl⟩
  rw [← hX_0] at hP
  have aX_0 : agr N (stR v 1) X_0 := by rw [hX_0, scr_1 (sam_rfl v).1]; exact bec_agr _ _ _
  have cX_0 : okC X_0 N := okC_agr aX_0 hC
  refine lv_aload_n C.1.1 C.1.2.1 dX5_earnsNothingWithout_11 rfl (lv_at hl 0 rfl) ?_
  refine r_get C hP 0 5 (Nat.lt_of_lt_of_le (by decide) hn) rfl (by decide) rfl hi5 1 (by decide) (List.mem_of_getElem? (i := 1) rfl) rfl (val := .ref (gA g 14)) rfl dX5_earnsNothingWithout_12 ?_
  refine lv_iload_n C.1.1 C.1.2.1 dX5_earnsNothingWithout_15 rfl (lv_at hl 1 rfl) ?_
  refine a_G hS (run_V C hP hS hl.1 14 2 (Nat.lt_of_lt_of_le (by decide) hn) rfl (by decide) rfl [.int x] (kX2_sendAway l g n (stW v 14 X_0) x v 14 X_0 N (Or.inr (Or.inl rfl)) rfl cX_0) gX5_earnsNothingWithout_X2_sendAway rfl hdX2_sendAway rfl ⟨rfl, rfl⟩ ⟨Nat.le_of_ble_eq_true rfl, Nat.le_of_ble_eq_true rfl⟩ rfl [] rfl (Nat.le_of_ble_eq_true rfl) dX5_earnsNothingWithout_16 ⟨Nat.zero_le _, Nat.zero_le _⟩) (fun H locs hP hS => ?_)
  obtain ⟨Y, hY⟩ : ∃ zz, zz = saM X_0 x N := ⟨_, rfl⟩
  rw [← hY] at hP
  have cY : okC Y N := by rw [hY]; exact okC_sa cX_0 N h8
  have aY : agr N Y (awM (v.1 54) x N) := by rw [hY]; exact agr_sa cX_0 (agr_symm (agr_trans hA aX_0)) N (Nat.le_refl N)
  have cW : okC (awM (v.1 54) x N) N := okC_agr aY cY
  have w6 : awM (v.1 54) x N 6 = v.1 54 6 := aw6 _ _ _
  refine lv_iconst (v := 0) C.1.1 C.1.2.1 dX5_earnsNothingWithout_19 rfl ?_
  refine lv_istore_n (lv' := [(3, .int 0), (0, .ref (gA g 0)), (1, .int x), (2, .int (nI q))]) C.1.1 C.1.2.1 dX5_earnsNothingWithout_20 rfl hl (by decide) rfl (fun ls hl => ?_)
  have lp_21 : ∀ (k_21 i : Nat), i ≤ q → q + 1 ≤ i + k_21 → ∀ (H : Heap) (locs : List Loc) (ls : Array Slot), va_P g.1 vwCl (wl g n (stW v 14 (daysM Y i))) H → va_S (wA g n) s.heap H locs → lv_has ls 4 [(0, .ref (gA g 0)), (1, .int x), (2, .int (nI q)), (3, .int (nI i))] → W p l e rmX5_earnsNothingWithout s m args below meth c H locs 0 0 (MQ below (QU g n (daysM (awM (v.1 54) x N) q 6 = v.1 54 6) v) args s 0 0 (wA g n)) (F0 m 21 ls []) := by
    clear hP hS hl
    intro k_21
    induction k_21 with
    | zero => exact fun i h1 h2 => absurd h2 (by omega)
    | succ k_21 ih_21 =>
      intro i hi_21 hk_21 H locs ls hP hS hl
      refine lv_iload_n C.1.1 C.1.2.1 dX5_earnsNothingWithout_21 rfl (lv_at hl 3 rfl) ?_
      refine lv_iload_n C.1.1 C.1.2.1 dX5_earnsNothingWithout_22 rfl (lv_at hl 2 rfl) ?_
      refine lv_icmp_ge (tgt := 56) C.1.1 C.1.2.1 dX5_earnsNothingWithout_23 (by decide) (fun c_1 => ?_) (fun c_1 => ?_)
      · rw [show (nI q ≤ nI i) = (q ≤ i) from propext (nI_leI (a := q) (b := i) (by omega) (by omega))] at c_1
        refine lv_aload_n C.1.1 C.1.2.1 dX5_earnsNothingWithout_56 rfl (lv_at hl 0 rfl) ?_
        refine r_get C hP 0 5 (Nat.lt_of_lt_of_le (by decide) hn) rfl (by decide) rfl hi5 1 (by decide) (List.mem_of_getElem? (i := 1) rfl) rfl (val := .ref (gA g 14)) rfl dX5_earnsNothingWithout_57 ?_
        refine r_get C hP 14 2 (Nat.lt_of_lt_of_le (by decide) hn) rfl (by decide) rfl hi2 5 (by decide) (List.mem_of_getElem? (i := 3) rfl) rfl (val := .int ((stW v 14 (daysM Y i)).1 14 5)) rfl dX5_earnsNothingWithout_60 ?_
        refine lv_topE ((daysM (awM (v.1 54) x N) i) 6) ((st_at (i := 6) (sl_k rfl) (by decide)).trans (agr_lo (agr_days aY (okC_M cY) i) (by decide))) ?_
        refine lv_aload_n C.1.1 C.1.2.1 dX5_earnsNothingWithout_63 rfl (lv_at hl 0 rfl) ?_
        refine r_get C hP 0 5 (Nat.lt_of_lt_of_le (by decide) hn) rfl (by decide) rfl hi5 0 (by decide) (List.mem_of_getElem? (i := 2) rfl) rfl (val := .ref (gA g 1)) rfl dX5_earnsNothingWithout_64 ?_
        refine r_get C hP 1 2 (Nat.lt_of_lt_of_le (by decide) hn) rfl (by decide) rfl hi2 5 (by decide) (List.mem_of_getElem? (i := 3) rfl) rfl (val := .int ((stW v 14 (daysM Y i)).1 1 5)) rfl dX5_earnsNothingWithout_67 ?_
        refine lv_topE (v.1 54 6) ((congrFun (st_far (by decide)) _).trans ((scr_rd (i := 6) (sam_rfl v).1 (sl_k rfl) (by decide)).trans (agr_lo (agr_symm hA) (by decide)))) ?_
        refine lv_icmp_ne (tgt := 77) C.1.1 C.1.2.1 dX5_earnsNothingWithout_70 (by decide) (fun c_2 => ?_) (fun c_2 => ?_)
        · skip
          refine lv_iconst (v := 0) C.1.1 C.1.2.1 dX5_earnsNothingWithout_77 rfl ?_
          exact t_U0 C rfl hP hS (fun z => gold_ne cW (show i ≤ q by omega) (fun h => c_2 (h.trans w6)) (z.trans w6.symm)) (sam_trans (sam_rfl v) (sam_14 _ _)) dX5_earnsNothingWithout_78
        · skip
          refine lv_iconst (v := 1) C.1.1 C.1.2.1 dX5_earnsNothingWithout_73 rfl ?_
          refine lv_goto (tgt := 78) C.1.1 C.1.2.1 dX5_earnsNothingWithout_74 (by decide) ?_
          exact t_U1 C rfl hP hS (by rw [show q = i by omega]; exact c_2) (sam_trans (sam_rfl v) (sam_14 _ _)) dX5_earnsNothingWithout_78
      · rw [show (nI q ≤ nI i) = (q ≤ i) from propext (nI_leI (a := q) (b := i) (by omega) (by omega))] at c_1
        refine lv_aload_n C.1.1 C.1.2.1 dX5_earnsNothingWithout_26 rfl (lv_at hl 0 rfl) ?_
        refine r_get C hP 0 5 (Nat.lt_of_lt_of_le (by decide) hn) rfl (by decide) rfl hi5 1 (by decide) (List.mem_of_getElem? (i := 1) rfl) rfl (val := .ref (gA g 14)) rfl dX5_earnsNothingWithout_27 ?_
        refine r_get C hP 14 2 (Nat.lt_of_lt_of_le (by decide) hn) rfl (by decide) rfl hi2 5 (by decide) (List.mem_of_getElem? (i := 3) rfl) rfl (val := .int ((stW v 14 (daysM Y i)).1 14 5)) rfl dX5_earnsNothingWithout_30 ?_
        refine lv_topE ((daysM (awM (v.1 54) x N) i) 6) ((st_at (i := 6) (sl_k rfl) (by decide)).trans (agr_lo (agr_days aY (okC_M cY) i) (by decide))) ?_
        refine lv_aload_n C.1.1 C.1.2.1 dX5_earnsNothingWithout_33 rfl (lv_at hl 0 rfl) ?_
        refine r_get C hP 0 5 (Nat.lt_of_lt_of_le (by decide) hn) rfl (by decide) rfl hi5 0 (by decide) (List.mem_of_getElem? (i := 2) rfl) rfl (val := .ref (gA g 1)) rfl dX5_earnsNothingWithout_34 ?_
        refine r_get C hP 1 2 (Nat.lt_of_lt_of_le (by decide) hn) rfl (by decide) rfl hi2 5 (by decide) (List.mem_of_getElem? (i := 3) rfl) rfl (val := .int ((stW v 14 (daysM Y i)).1 1 5)) rfl dX5_earnsNothingWithout_37 ?_
        refine lv_topE (v.1 54 6) ((congrFun (st_far (by decide)) _).trans ((scr_rd (i := 6) (sam_rfl v).1 (sl_k rfl) (by decide)).trans (agr_lo (agr_symm hA) (by decide)))) ?_
        refine lv_icmp_ne (tgt := 56) C.1.1 C.1.2.1 dX5_earnsNothingWithout_40 (by decide) (fun c_3 => ?_) (fun c_3 => ?_)
        · skip
          refine lv_aload_n C.1.1 C.1.2.1 dX5_earnsNothingWithout_56 rfl (lv_at hl 0 rfl) ?_
          refine r_get C hP 0 5 (Nat.lt_of_lt_of_le (by decide) hn) rfl (by decide) rfl hi5 1 (by decide) (List.mem_of_getElem? (i := 1) rfl) rfl (val := .ref (gA g 14)) rfl dX5_earnsNothingWithout_57 ?_
          refine r_get C hP 14 2 (Nat.lt_of_lt_of_le (by decide) hn) rfl (by decide) rfl hi2 5 (by decide) (List.mem_of_getElem? (i := 3) rfl) rfl (val := .int ((stW v 14 (daysM Y i)).1 14 5)) rfl dX5_earnsNothingWithout_60 ?_
          refine lv_topE ((daysM (awM (v.1 54) x N) i) 6) ((st_at (i := 6) (sl_k rfl) (by decide)).trans (agr_lo (agr_days aY (okC_M cY) i) (by decide))) ?_
          refine lv_aload_n C.1.1 C.1.2.1 dX5_earnsNothingWithout_63 rfl (lv_at hl 0 rfl) ?_
          refine r_get C hP 0 5 (Nat.lt_of_lt_of_le (by decide) hn) rfl (by decide) rfl hi5 0 (by decide) (List.mem_of_getElem? (i := 2) rfl) rfl (val := .ref (gA g 1)) rfl dX5_earnsNothingWithout_64 ?_
          refine r_get C hP 1 2 (Nat.lt_of_lt_of_le (by decide) hn) rfl (by decide) rfl hi2 5 (by decide) (List.mem_of_getElem? (i := 3) rfl) rfl (val := .int ((stW v 14 (daysM Y i)).1 1 5)) rfl dX5_earnsNothingWithout_67 ?_
          refine lv_topE (v.1 54 6) ((congrFun (st_far (by decide)) _).trans ((scr_rd (i := 6) (sam_rfl v).1 (sl_k rfl) (by decide)).trans (agr_lo (agr_symm hA) (by decide)))) ?_
          refine lv_icmp_ne (tgt := 77) C.1.1 C.1.2.1 dX5_earnsNothingWithout_70 (by decide) (fun _ => ?_) (fun c_4 => absurd c_4 c_3)
          refine lv_iconst (v := 0) C.1.1 C.1.2.1 dX5_earnsNothingWithout_77 rfl ?_
          exact t_U0 C rfl hP hS (fun z => gold_ne cW (show i ≤ q by omega) (fun h => c_3 (h.trans w6)) (z.trans w6.symm)) (sam_trans (sam_rfl v) (sam_14 _ _)) dX5_earnsNothingWithout_78
        · skip
          refine lv_aload_n C.1.1 C.1.2.1 dX5_earnsNothingWithout_43 rfl (lv_at hl 0 rfl) ?_
          refine r_get C hP 0 5 (Nat.lt_of_lt_of_le (by decide) hn) rfl (by decide) rfl hi5 1 (by decide) (List.mem_of_getElem? (i := 1) rfl) rfl (val := .ref (gA g 14)) rfl dX5_earnsNothingWithout_44 ?_
          refine a_G hS (run_V C hP hS hl.1 14 2 (Nat.lt_of_lt_of_le (by decide) hn) rfl (by decide) rfl [] (kX2_passDay l g n (stW v 14 (daysM Y i)) v 14 (daysM Y i) N (Or.inr (Or.inl rfl)) rfl (okC_days cY i)) gX5_earnsNothingWithout_X2_passDay rfl hdX2_passDay rfl ⟨rfl, rfl⟩ ⟨Nat.le_of_ble_eq_true rfl, Nat.le_of_ble_eq_true rfl⟩ rfl [] rfl (Nat.le_of_ble_eq_true rfl) dX5_earnsNothingWithout_47 ⟨Nat.zero_le _, Nat.zero_le _⟩) (fun H locs hP hS => ?_)
          refine lv_iinc (v := nI (i + 1)) (lv' := [(3, .int (nI (i + 1))), (0, .ref (gA g 0)), (1, .int x), (2, .int (nI q))]) C.1.1 C.1.2.1 dX5_earnsNothingWithout_50 hl (k := 3) rfl (nI_1 i) (by decide) rfl (fun ls hl => ?_)
          refine lv_goto (tgt := 21) C.1.1 C.1.2.1 dX5_earnsNothingWithout_53 (by decide) ?_
          exact ih_21 (i + 1) (by omega) (by omega) _ _ _ hP hS (lv_sub hl [1, 2, 3, 0] rfl)
  exact lp_21 (q + 1) 0 (Nat.zero_le _) (by omega) _ _ _ hP hS (lv_sub hl [1, 2, 3, 0] rfl)

abbrev rmX5_empty : Room := { frames := 7, cells := 0, slots := 0, locals := 156 }
set_option maxHeartbeats 4000000 in
set_option maxRecDepth 100000 in
theorem kX5_empty (l : Launch) (g : GG) (n : Nat) (v : SV) (x : Int32) (N : Nat) (hR : Rl v N) : Met l yX5_empty wsX5_empty rmX5_empty (PW g n v [.ref (gA g 0), .int x]) (QP g n v (fun u => emptyM u x)) 0 0 (wA g n) := by
  refine Met.begin RX5 rfl (by decide) rfl (Nat.le_of_ble_eq_true rfl) ?_
  intro p e s m args below meth c ls ha C hP hS hl
  have hn : 64 ≤ n := C.2.1.1.2.1
  have hi0 : ∀ w ∈ u_ws RX0 TX0 6, w ∈ wsX5_empty := by decide +kernel
  have hi2 : ∀ w ∈ u_ws RX2 TX2 11, w ∈ wsX5_empty := by decide +kernel
  have hi5 : ∀ w ∈ u_ws RX5 TX5 8, w ∈ wsX5_empty := by decide +kernel
  have hl : lv_has ls 5 [(0, .ref (gA g 0)), (1, .int x)] := hl
  have hC := hR.1.1
  have hA := hR.1.2
  have h8 := hC.1
  have hD : okC (v.1 54) N := okC_agr (agr_symm hA) hC
  have hM := okC_M hD
  obtain ⟨M, hM2⟩ : ∃ M, M = 2 ^ N := ⟨_, rfl⟩
  have hMb := pw_le h8
  rw [← hM2] at hMb
  refine lv_iload_n C.1.1 C.1.2.1 dX5_empty_0 rfl (lv_at hl 1 rfl) ?_
  refine lv_iconst (v := 0) C.1.1 C.1.2.1 dX5_empty_1 rfl ?_
  refine lv_bipush (v := 20) C.1.1 C.1.2.1 dX5_empty_2 rfl ?_
  refine a_B hS (run_S C hP hS hl.1 [.int x, .int 0, .int 20] (kX5_isWithin l g n v x 0 20) gX5_empty_X5_isWithin hdX5_isWithin rfl ⟨rfl, rfl⟩ ⟨Nat.le_of_ble_eq_true rfl, Nat.le_of_ble_eq_true rfl⟩ rfl [] rfl (Nat.le_of_ble_eq_true rfl) dX5_empty_4 ⟨Nat.zero_le _, Nat.zero_le _⟩) (fun b_1 H locs hP hS => ?_) (fun b_1 H locs hP hS => ?_)
  · skip
    have b_1 := (in_iffC 21 (by decide) (by decide)).mp b_1
    have kb_1 := b_1
    obtain ⟨jx, hjx, rfl⟩ := b_1
    refine lv_if_ne (tgt := 17) C.1.1 C.1.2.1 dX5_empty_7 (by decide) (fun _ => ?_) (fun c_2 => absurd c_2 (by decide))
    refine lv_aload_n C.1.1 C.1.2.1 dX5_empty_17 rfl (lv_at hl 0 rfl) ?_
    refine r_get C hP 0 5 (Nat.lt_of_lt_of_le (by decide) hn) rfl (by decide) rfl hi5 0 (by decide) (List.mem_of_getElem? (i := 2) rfl) rfl (val := .ref (gA g 1)) rfl dX5_empty_18 ?_
    refine a_F hS (run_V C hP hS hl.1 1 2 (Nat.lt_of_lt_of_le (by decide) hn) rfl (by decide) rfl [] (kX2_everybody l g n v v 1 (stR v 1) N (Or.inl rfl) (scr_self (sam_rfl v).1) hC) gX5_empty_X2_everybody rfl hdX2_everybody rfl ⟨rfl, rfl⟩ ⟨Nat.le_of_ble_eq_true rfl, Nat.le_of_ble_eq_true rfl⟩ rfl [] rfl (Nat.le_of_ble_eq_true rfl) dX5_empty_21 ⟨Nat.zero_le _, Nat.zero_le _⟩) (fun H locs hP hS => ?_)
    refine lv_topE (nI (M - 1)) (by rw [hM2]; exact ev_eq N (by omega)) ?_
    refine lv_istore_n (lv' := [(2, .int (nI (M - 1))), (0, .ref (gA g 0)), (1, .int (nI jx))]) C.1.1 C.1.2.1 dX5_empty_24 rfl hl (by decide) rfl (fun ls hl => ?_)
    refine lv_iconst (v := 0) C.1.1 C.1.2.1 dX5_empty_25 rfl ?_
    refine lv_istore_n (lv' := [(3, .int 0), (2, .int (nI (M - 1))), (0, .ref (gA g 0)), (1, .int (nI jx))]) C.1.1 C.1.2.1 dX5_empty_26 rfl hl (by decide) rfl (fun ls hl => ?_)
    have lp_27 : ∀ (k_27 a1 : Nat), a1 ≤ N + 1 → (N + 1) + 1 ≤ a1 + k_27 → ∀ (H : Heap) (locs : List Loc) (ls : Array Slot) (u : SV), (sam v u) → (∀ g, g < M → onN g < a1 → ¬ daysM (awM (v.1 54) (nI g) N) jx 6 = v.1 54 6) → va_P g.1 vwCl (wl g n u) H → va_S (wA g n) s.heap H locs → lv_has ls 5 [(0, .ref (gA g 0)), (1, .int (nI jx)), (2, .int (nI (M - 1))), (3, .int (nI a1))] → W p l e rmX5_empty s m args below meth c H locs 0 0 (MQ below (QP g n v (fun u => emptyM u (nI jx))) args s 0 0 (wA g n)) (F0 m 27 ls []) := by
      clear hP hS hl
      intro k_27
      induction k_27 with
      | zero => exact fun a1 h1 h2 => absurd h2 (by omega)
      | succ k_27 ih_27 =>
        intro a1 hi_27 hk_27 H locs ls u hu hno hP hS hl
        refine lv_iload_n C.1.1 C.1.2.1 dX5_empty_27 rfl (lv_at hl 3 rfl) ?_
        refine lv_aload_n C.1.1 C.1.2.1 dX5_empty_28 rfl (lv_at hl 0 rfl) ?_
        refine r_get C hP 0 5 (Nat.lt_of_lt_of_le (by decide) hn) rfl (by decide) rfl hi5 0 (by decide) (List.mem_of_getElem? (i := 2) rfl) rfl (val := .ref (gA g 1)) rfl dX5_empty_29 ?_
        refine r_get C hP 1 2 (Nat.lt_of_lt_of_le (by decide) hn) rfl (by decide) rfl hi2 8 (by decide) (List.mem_of_getElem? (i := 3) rfl) rfl (val := .int (u.1 1 8)) rfl dX5_empty_32 ?_
        refine lv_topE (nI N) ((scr_rd (i := 0) hu.1 (sl_k rfl) (by decide)).trans hC.2.1) ?_
        refine lv_icmp_gt (tgt := 81) C.1.1 C.1.2.1 dX5_empty_35 (by decide) (fun c_3 => ?_) (fun c_3 => ?_)
        · rw [show (nI N < nI a1) = (N < a1) from propext (nI_ltI (a := N) (b := a1) (by omega) (by omega))] at c_3
          refine lv_aload_n C.1.1 C.1.2.1 dX5_empty_81 rfl (lv_at hl 0 rfl) ?_
          refine lv_ldc (v := (-1000004)) C.1.1 C.1.2.1 C.1.2.2.2.1 (C.1.2.2.2.2 _ (List.mem_of_getElem? (i := 4) rfl)) dX5_empty_82 ?_
          refine a_F hS (run_V C hP hS hl.1 0 5 (Nat.lt_of_lt_of_le (by decide) hn) rfl (by decide) rfl [.int (-1000004)] (kX5_finding l g n u 3 (by decide) (-1000004) rfl) gX5_empty_X5_finding rfl hdX5_finding rfl ⟨rfl, rfl⟩ ⟨Nat.le_of_ble_eq_true rfl, Nat.le_of_ble_eq_true rfl⟩ rfl [] rfl (Nat.le_of_ble_eq_true rfl) dX5_empty_84 ⟨Nat.zero_le _, Nat.zero_le _⟩) (fun H locs hP hS => ?_)
          have en : emM (v.1 54) jx N M = -1 := (em_bs _ _ _ _).trans (bs_none (by omega) (fun g hg => hno g hg (by have := on_le N (by omega) g (hM2 ▸ hg); omega)))
          have e54_4 : (fnC u 3).1 54 = v.1 54 := ((upw_ne _ _ (by decide)).trans (sam54 hu))
          exact t_P C rfl hP hS (ps_fdA (f := fun u => emptyM u (nI jx)) hR hu (by decide) (by simp only [emptyM, nM_of e54_4 hM, e54_4, cif_pos kb_1, tn_nI (show jx < 2 ^ 31 by omega), ← hM2, en, if_pos (show (-1 : Int32) < 0 by decide)]) rfl) (rsc_trans (hu.2) (rsc_w _ _ (by decide))) dX5_empty_87
        · rw [show (nI N < nI a1) = (N < a1) from propext (nI_ltI (a := N) (b := a1) (by omega) (by omega))] at c_3
          refine lv_iconst (v := 0) C.1.1 C.1.2.1 dX5_empty_38 rfl ?_
          refine lv_istore (lv' := [(4, .int 0), (0, .ref (gA g 0)), (1, .int (nI jx)), (2, .int (nI (M - 1))), (3, .int (nI a1))]) C.1.1 C.1.2.1 dX5_empty_39 hl (by decide) rfl (fun ls hl => ?_)
          have lp_41 : ∀ (k_41 b1 : Nat), b1 ≤ M → M + 1 ≤ b1 + k_41 → ∀ (H : Heap) (locs : List Loc) (ls : Array Slot) (u : SV), (sam v u) → (∀ g, g < b1 → onN g = a1 → ¬ daysM (awM (v.1 54) (nI g) N) jx 6 = v.1 54 6) → va_P g.1 vwCl (wl g n u) H → va_S (wA g n) s.heap H locs → lv_has ls 5 [(0, .ref (gA g 0)), (1, .int (nI jx)), (2, .int (nI (M - 1))), (3, .int (nI a1)), (4, .int (nI b1))] → W p l e rmX5_empty s m args below meth c H locs 0 0 (MQ below (QP g n v (fun u => emptyM u (nI jx))) args s 0 0 (wA g n)) (F0 m 41 ls []) := by
            clear hP hS hl
            intro k_41
            induction k_41 with
            | zero => exact fun b1 h1 h2 => absurd h2 (by omega)
            | succ k_41 ih_41 =>
              intro b1 hi_41 hk_41 H locs ls u hu hno2 hP hS hl
              refine lv_iload C.1.1 C.1.2.1 dX5_empty_41 (lv_at hl 4 rfl) ?_
              refine lv_iload_n C.1.1 C.1.2.1 dX5_empty_43 rfl (lv_at hl 2 rfl) ?_
              refine lv_icmp_gt (tgt := 75) C.1.1 C.1.2.1 dX5_empty_44 (by decide) (fun c_5 => ?_) (fun c_5 => ?_)
              · rw [show (nI (M - 1) < nI b1) = (M - 1 < b1) from propext (nI_ltI (a := M - 1) (b := b1) (by omega) (by omega))] at c_5
                refine lv_iinc (v := nI (a1 + 1)) (lv' := [(3, .int (nI (a1 + 1))), (0, .ref (gA g 0)), (1, .int (nI jx)), (2, .int (nI (M - 1))), (4, .int (nI b1))]) C.1.1 C.1.2.1 dX5_empty_75 hl (k := 3) rfl (nI_1 a1) (by decide) rfl (fun ls hl => ?_)
                refine lv_goto (tgt := 27) C.1.1 C.1.2.1 dX5_empty_78 (by decide) ?_
                exact ih_27 (a1 + 1) (by omega) (by omega) _ _ _ u hu (fun g hg h => if h9 : onN g < a1 then hno g hg h9 else hno2 g (by omega) (by omega)) hP hS (lv_sub hl [1, 2, 3, 0] rfl)
              · rw [show (nI (M - 1) < nI b1) = (M - 1 < b1) from propext (nI_ltI (a := M - 1) (b := b1) (by omega) (by omega))] at c_5
                refine lv_iload C.1.1 C.1.2.1 dX5_empty_47 (lv_at hl 4 rfl) ?_
                refine a_F hS (run_S C hP hS hl.1 [.int (nI b1)] (kJ6_bitCount_0f7a4 l g n u (nI b1)) gX5_empty_J6_bitCount_0f7a4 hdJ6_bitCount_0f7a4 rfl ⟨rfl, rfl⟩ ⟨Nat.le_of_ble_eq_true rfl, Nat.le_of_ble_eq_true rfl⟩ rfl [] rfl (Nat.le_of_ble_eq_true rfl) dX5_empty_49 ⟨Nat.zero_le _, Nat.zero_le _⟩) (fun H locs hP hS => ?_)
                refine lv_topE (nI (onN b1)) (pop_on (by omega)) ?_
                have ho := (on_eq b1).2
                refine lv_iload_n C.1.1 C.1.2.1 dX5_empty_52 rfl (lv_at hl 3 rfl) ?_
                refine lv_icmp_ne (tgt := 69) C.1.1 C.1.2.1 dX5_empty_53 (by decide) (fun c_6 => ?_) (fun c_6 => ?_)
                · rw [show (nI (onN b1) = nI a1) = (onN b1 = a1) from propext (nI_eq (a := onN b1) (b := a1) (by omega) (by omega))] at c_6
                  refine lv_iinc (v := nI (b1 + 1)) (lv' := [(4, .int (nI (b1 + 1))), (0, .ref (gA g 0)), (1, .int (nI jx)), (2, .int (nI (M - 1))), (3, .int (nI a1))]) C.1.1 C.1.2.1 dX5_empty_69 hl (k := 4) rfl (nI_1 b1) (by decide) rfl (fun ls hl => ?_)
                  refine lv_goto (tgt := 41) C.1.1 C.1.2.1 dX5_empty_72 (by decide) ?_
                  exact ih_41 (b1 + 1) (by omega) (by omega) _ _ _ u hu (fun g hg h => if h9 : g < b1 then hno2 g h9 h else by rw [show g = b1 by omega] at h ⊢; first | exact hQ | exact absurd h (by assumption)) hP hS (lv_sub hl [1, 2, 3, 4, 0] rfl)
                · rw [show (nI (onN b1) = nI a1) = (onN b1 = a1) from propext (nI_eq (a := onN b1) (b := a1) (by omega) (by omega))] at c_6
                  refine lv_aload_n C.1.1 C.1.2.1 dX5_empty_56 rfl (lv_at hl 0 rfl) ?_
                  refine lv_iload C.1.1 C.1.2.1 dX5_empty_57 (lv_at hl 4 rfl) ?_
                  refine lv_iload_n C.1.1 C.1.2.1 dX5_empty_59 rfl (lv_at hl 1 rfl) ?_
                  refine a_U hS (run_V C hP hS hl.1 0 5 (Nat.lt_of_lt_of_le (by decide) hn) rfl (by decide) rfl [.int (nI b1), .int (nI jx)] (kX5_earnsNothingWithout l g n u (nI b1) jx (by omega) N (Rl_sam hR hu)) gX5_empty_X5_earnsNothingWithout rfl hdX5_earnsNothingWithout rfl ⟨rfl, rfl⟩ ⟨Nat.le_of_ble_eq_true rfl, Nat.le_of_ble_eq_true rfl⟩ rfl [] rfl (Nat.le_of_ble_eq_true rfl) dX5_empty_60 ⟨Nat.zero_le _, Nat.zero_le _⟩) (fun u_8 hu_8 b_7 H locs hP hS => ?_) (fun u_8 hu_8 b_7 H locs hP hS => ?_)
                  · skip
                    have hu_8 := sam_trans hu hu_8
                    have hQ : daysM (awM (v.1 54) (nI b1) N) jx 6 = v.1 54 6 := by rw [← sam54 hu]; exact b_7
                    refine lv_if_eq (tgt := 69) C.1.1 C.1.2.1 dX5_empty_63 (by decide) (fun c_9 => absurd c_9 (by decide)) (fun _ => ?_)
                    refine lv_iload C.1.1 C.1.2.1 dX5_empty_66 (lv_at hl 4 rfl) ?_
                    have eb : emM (v.1 54) jx N M = nI b1 := (em_bs _ _ _ _).trans (bs_some (by omega) (by omega) hQ (fun g hg ho => hno g hg (by omega)) (fun g hg ho => hno2 g hg (by omega)))
                    have e54_10 : (u_8).1 54 = v.1 54 := (sam54 hu_8)
                    exact t_P C rfl hP hS (ps_eq (u := u_8) hR (show emptyM u_8 (nI jx) = (nI b1, asideM u_8) from by simp only [emptyM, nM_of e54_10 hM, e54_10, cif_pos kb_1, cif_pos b_7, tn_nI (show jx < 2 ^ 31 by omega), ← hM2, eb, if_neg (show ¬ nI b1 < 0 from fun z => absurd (nI_pos' (by omega)) (fa_lt_nle z))]) rfl (sam_trans hu_8 (sam_aside _))) hu_8.2 dX5_empty_68
                  · skip
                    have hu_8 := sam_trans hu hu_8
                    have hQ : ¬ daysM (awM (v.1 54) (nI b1) N) jx 6 = v.1 54 6 := by rw [← sam54 hu]; exact b_7
                    refine lv_if_eq (tgt := 69) C.1.1 C.1.2.1 dX5_empty_63 (by decide) (fun _ => ?_) (fun c_11 => absurd c_11 (by decide))
                    refine lv_iinc (v := nI (b1 + 1)) (lv' := [(4, .int (nI (b1 + 1))), (0, .ref (gA g 0)), (1, .int (nI jx)), (2, .int (nI (M - 1))), (3, .int (nI a1))]) C.1.1 C.1.2.1 dX5_empty_69 hl (k := 4) rfl (nI_1 b1) (by decide) rfl (fun ls hl => ?_)
                    refine lv_goto (tgt := 41) C.1.1 C.1.2.1 dX5_empty_72 (by decide) ?_
                    exact ih_41 (b1 + 1) (by omega) (by omega) _ _ _ u_8 hu_8 (fun g hg h => if h9 : g < b1 then hno2 g h9 h else by rw [show g = b1 by omega] at h ⊢; first | exact hQ | exact absurd h (by assumption)) hP hS (lv_sub hl [1, 2, 3, 4, 0] rfl)
          exact lp_41 (M + 1) 0 (Nat.zero_le _) (by omega) _ _ _ u hu (fun g hg h => absurd hg (Nat.not_lt_zero g)) hP hS (lv_sub hl [1, 2, 3, 4, 0] rfl)
    exact lp_27 (N + 1 + 1) 0 (Nat.zero_le _) (by omega) _ _ _ v (sam_rfl v) (fun g hg h => absurd h (Nat.not_lt_zero _)) hP hS (lv_sub hl [2, 3, 1, 0] rfl)
  · skip
    have b_1 := fun h => b_1 ((in_iffC 21 (by decide) (by decide)).mpr h)
    refine lv_if_ne (tgt := 17) C.1.1 C.1.2.1 dX5_empty_7 (by decide) (fun c_12 => absurd c_12 (by decide)) (fun _ => ?_)
    refine lv_aload_n C.1.1 C.1.2.1 dX5_empty_10 rfl (lv_at hl 0 rfl) ?_
    refine lv_ldc (v := (-1000001)) C.1.1 C.1.2.1 C.1.2.2.2.1 (C.1.2.2.2.2 _ (List.mem_of_getElem? (i := 1) rfl)) dX5_empty_11 ?_
    refine a_F hS (run_V C hP hS hl.1 0 5 (Nat.lt_of_lt_of_le (by decide) hn) rfl (by decide) rfl [.int (-1000001)] (kX5_finding l g n v 0 (by decide) (-1000001) rfl) gX5_empty_X5_finding rfl hdX5_finding rfl ⟨rfl, rfl⟩ ⟨Nat.le_of_ble_eq_true rfl, Nat.le_of_ble_eq_true rfl⟩ rfl [] rfl (Nat.le_of_ble_eq_true rfl) dX5_empty_13 ⟨Nat.zero_le _, Nat.zero_le _⟩) (fun H locs hP hS => ?_)
    have e54_13 : (fnC v 0).1 54 = v.1 54 := (upw_ne _ _ (by decide))
    exact t_P C rfl hP hS (ps_fd (f := fun u => emptyM u x) hR (sam_rfl v) (by decide) (by simp only [emptyM, nM_of e54_13 hM, e54_13, cif_neg b_1]) rfl) (rsc_trans (rsc_rfl v) (rsc_w _ _ (by decide))) dX5_empty_16

abbrev rmX5_cover : Room := { frames := 2, cells := 0, slots := 0, locals := 44 }
set_option maxHeartbeats 4000000 in
set_option maxRecDepth 100000 in
theorem kX5_cover (l : Launch) (g : GG) (n : Nat) (v : SV) (x : Int32) (N : Nat) (hR : Rl v N) : Met l yX5_cover wsX5_cover rmX5_cover (PW g n v [.ref (gA g 0), .int x]) (QP g n v (fun u => coverM u x)) 0 0 (wA g n) := by
  refine Met.begin RX5 rfl (by decide) rfl (Nat.le_of_ble_eq_true rfl) ?_
  intro p e s m args below meth c ls ha C hP hS hl
  have hn : 64 ≤ n := C.2.1.1.2.1
  have hi0 : ∀ w ∈ u_ws RX0 TX0 6, w ∈ wsX5_cover := by decide +kernel
  have hi2 : ∀ w ∈ u_ws RX2 TX2 11, w ∈ wsX5_cover := by decide +kernel
  have hi5 : ∀ w ∈ u_ws RX5 TX5 8, w ∈ wsX5_cover := by decide +kernel
  have hl : lv_has ls 5 [(0, .ref (gA g 0)), (1, .int x)] := hl
  have hC := hR.1.1
  have hA := hR.1.2
  have h8 := hC.1
  have hD : okC (v.1 54) N := okC_agr (agr_symm hA) hC
  have hM := okC_M hD
  obtain ⟨M, hM2⟩ : ∃ M, M = 2 ^ N := ⟨_, rfl⟩
  have hMb := pw_le h8
  rw [← hM2] at hMb
  refine lv_iload_n C.1.1 C.1.2.1 dX5_cover_0 rfl (lv_at hl 1 rfl) ?_
  refine lv_iconst (v := 0) C.1.1 C.1.2.1 dX5_cover_1 rfl ?_
  refine lv_sipush (v := 4095) C.1.1 C.1.2.1 dX5_cover_2 rfl ?_
  refine a_B hS (run_S C hP hS hl.1 [.int x, .int 0, .int 4095] (kX5_isWithin l g n v x 0 4095) gX5_cover_X5_isWithin hdX5_isWithin rfl ⟨rfl, rfl⟩ ⟨Nat.le_of_ble_eq_true rfl, Nat.le_of_ble_eq_true rfl⟩ rfl [] rfl (Nat.le_of_ble_eq_true rfl) dX5_cover_5 ⟨Nat.zero_le _, Nat.zero_le _⟩) (fun b_1 H locs hP hS => ?_) (fun b_1 H locs hP hS => ?_)
  · skip
    have b_1 := (in_iffC 4096 (by decide) (by decide)).mp b_1
    have kb_1 := b_1
    obtain ⟨jx, hjx, rfl⟩ := b_1
    refine lv_if_ne (tgt := 18) C.1.1 C.1.2.1 dX5_cover_8 (by decide) (fun _ => ?_) (fun c_2 => absurd c_2 (by decide))
    refine lv_aload_n C.1.1 C.1.2.1 dX5_cover_18 rfl (lv_at hl 0 rfl) ?_
    refine r_get C hP 0 5 (Nat.lt_of_lt_of_le (by decide) hn) rfl (by decide) rfl hi5 0 (by decide) (List.mem_of_getElem? (i := 2) rfl) rfl (val := .ref (gA g 1)) rfl dX5_cover_19 ?_
    refine a_F hS (run_V C hP hS hl.1 1 2 (Nat.lt_of_lt_of_le (by decide) hn) rfl (by decide) rfl [] (kX2_everybody l g n v v 1 (stR v 1) N (Or.inl rfl) (scr_self (sam_rfl v).1) hC) gX5_cover_X2_everybody rfl hdX2_everybody rfl ⟨rfl, rfl⟩ ⟨Nat.le_of_ble_eq_true rfl, Nat.le_of_ble_eq_true rfl⟩ rfl [] rfl (Nat.le_of_ble_eq_true rfl) dX5_cover_22 ⟨Nat.zero_le _, Nat.zero_le _⟩) (fun H locs hP hS => ?_)
    refine lv_topE (nI (M - 1)) (by rw [hM2]; exact ev_eq N (by omega)) ?_
    refine lv_istore_n (lv' := [(2, .int (nI (M - 1))), (0, .ref (gA g 0)), (1, .int (nI jx))]) C.1.1 C.1.2.1 dX5_cover_25 rfl hl (by decide) rfl (fun ls hl => ?_)
    refine lv_iconst (v := 0) C.1.1 C.1.2.1 dX5_cover_26 rfl ?_
    refine lv_istore_n (lv' := [(3, .int 0), (2, .int (nI (M - 1))), (0, .ref (gA g 0)), (1, .int (nI jx))]) C.1.1 C.1.2.1 dX5_cover_27 rfl hl (by decide) rfl (fun ls hl => ?_)
    have lp_28 : ∀ (k_28 a1 : Nat), a1 ≤ N + 1 → (N + 1) + 1 ≤ a1 + k_28 → ∀ (H : Heap) (locs : List Loc) (ls : Array Slot), (∀ g, g < M → onN g < a1 → ¬ leftM (v.1 54) (nI jx) (nI g) N = 0) → va_P g.1 vwCl (wl g n v) H → va_S (wA g n) s.heap H locs → lv_has ls 5 [(0, .ref (gA g 0)), (1, .int (nI jx)), (2, .int (nI (M - 1))), (3, .int (nI a1))] → W p l e rmX5_cover s m args below meth c H locs 0 0 (MQ below (QP g n v (fun u => coverM u (nI jx))) args s 0 0 (wA g n)) (F0 m 28 ls []) := by
      clear hP hS hl
      intro k_28
      induction k_28 with
      | zero => exact fun a1 h1 h2 => absurd h2 (by omega)
      | succ k_28 ih_28 =>
        intro a1 hi_28 hk_28 H locs ls hno hP hS hl
        refine lv_iload_n C.1.1 C.1.2.1 dX5_cover_28 rfl (lv_at hl 3 rfl) ?_
        refine lv_aload_n C.1.1 C.1.2.1 dX5_cover_29 rfl (lv_at hl 0 rfl) ?_
        refine r_get C hP 0 5 (Nat.lt_of_lt_of_le (by decide) hn) rfl (by decide) rfl hi5 0 (by decide) (List.mem_of_getElem? (i := 2) rfl) rfl (val := .ref (gA g 1)) rfl dX5_cover_30 ?_
        refine r_get C hP 1 2 (Nat.lt_of_lt_of_le (by decide) hn) rfl (by decide) rfl hi2 8 (by decide) (List.mem_of_getElem? (i := 3) rfl) rfl (val := .int (v.1 1 8)) rfl dX5_cover_33 ?_
        refine lv_topE (nI N) ((scr_rd (i := 0) (sam_rfl v).1 (sl_k rfl) (by decide)).trans hC.2.1) ?_
        refine lv_icmp_gt (tgt := 88) C.1.1 C.1.2.1 dX5_cover_36 (by decide) (fun c_3 => ?_) (fun c_3 => ?_)
        · rw [show (nI N < nI a1) = (N < a1) from propext (nI_ltI (a := N) (b := a1) (by omega) (by omega))] at c_3
          refine lv_aload_n C.1.1 C.1.2.1 dX5_cover_88 rfl (lv_at hl 0 rfl) ?_
          refine lv_ldc (v := (-1000004)) C.1.1 C.1.2.1 C.1.2.2.2.1 (C.1.2.2.2.2 _ (List.mem_of_getElem? (i := 4) rfl)) dX5_cover_89 ?_
          refine a_F hS (run_V C hP hS hl.1 0 5 (Nat.lt_of_lt_of_le (by decide) hn) rfl (by decide) rfl [.int (-1000004)] (kX5_finding l g n v 3 (by decide) (-1000004) rfl) gX5_cover_X5_finding rfl hdX5_finding rfl ⟨rfl, rfl⟩ ⟨Nat.le_of_ble_eq_true rfl, Nat.le_of_ble_eq_true rfl⟩ rfl [] rfl (Nat.le_of_ble_eq_true rfl) dX5_cover_91 ⟨Nat.zero_le _, Nat.zero_le _⟩) (fun H locs hP hS => ?_)
          have en : cvM (v.1 54) (nI jx) N M = -1 := (cv_bs _ _ _ _).trans (bs_none (by omega) (fun g hg => hno g hg (by have := on_le N (by omega) g (hM2 ▸ hg); omega)))
          have e54_4 : (fnC v 3).1 54 = v.1 54 := (upw_ne _ _ (by decide))
          exact t_P C rfl hP hS (ps_fd (f := fun u => coverM u (nI jx)) hR (sam_rfl v) (by decide) (by simp only [coverM, nM_of e54_4 hM, e54_4, cif_pos kb_1, tn_nI (show jx < 2 ^ 31 by omega), ← hM2, en, if_pos (show (-1 : Int32) < 0 by decide)]) rfl) (rsc_trans (rsc_rfl v) (rsc_w _ _ (by decide))) dX5_cover_94
        · rw [show (nI N < nI a1) = (N < a1) from propext (nI_ltI (a := N) (b := a1) (by omega) (by omega))] at c_3
          refine lv_iconst (v := 0) C.1.1 C.1.2.1 dX5_cover_39 rfl ?_
          refine lv_istore (lv' := [(4, .int 0), (0, .ref (gA g 0)), (1, .int (nI jx)), (2, .int (nI (M - 1))), (3, .int (nI a1))]) C.1.1 C.1.2.1 dX5_cover_40 hl (by decide) rfl (fun ls hl => ?_)
          have lp_42 : ∀ (k_42 b1 : Nat), b1 ≤ M → M + 1 ≤ b1 + k_42 → ∀ (H : Heap) (locs : List Loc) (ls : Array Slot), (∀ g, g < b1 → onN g = a1 → ¬ leftM (v.1 54) (nI jx) (nI g) N = 0) → va_P g.1 vwCl (wl g n v) H → va_S (wA g n) s.heap H locs → lv_has ls 5 [(0, .ref (gA g 0)), (1, .int (nI jx)), (2, .int (nI (M - 1))), (3, .int (nI a1)), (4, .int (nI b1))] → W p l e rmX5_cover s m args below meth c H locs 0 0 (MQ below (QP g n v (fun u => coverM u (nI jx))) args s 0 0 (wA g n)) (F0 m 42 ls []) := by
            clear hP hS hl
            intro k_42
            induction k_42 with
            | zero => exact fun b1 h1 h2 => absurd h2 (by omega)
            | succ k_42 ih_42 =>
              intro b1 hi_42 hk_42 H locs ls hno2 hP hS hl
              refine lv_iload C.1.1 C.1.2.1 dX5_cover_42 (lv_at hl 4 rfl) ?_
              refine lv_iload_n C.1.1 C.1.2.1 dX5_cover_44 rfl (lv_at hl 2 rfl) ?_
              refine lv_icmp_gt (tgt := 82) C.1.1 C.1.2.1 dX5_cover_45 (by decide) (fun c_5 => ?_) (fun c_5 => ?_)
              · rw [show (nI (M - 1) < nI b1) = (M - 1 < b1) from propext (nI_ltI (a := M - 1) (b := b1) (by omega) (by omega))] at c_5
                refine lv_iinc (v := nI (a1 + 1)) (lv' := [(3, .int (nI (a1 + 1))), (0, .ref (gA g 0)), (1, .int (nI jx)), (2, .int (nI (M - 1))), (4, .int (nI b1))]) C.1.1 C.1.2.1 dX5_cover_82 hl (k := 3) rfl (nI_1 a1) (by decide) rfl (fun ls hl => ?_)
                refine lv_goto (tgt := 28) C.1.1 C.1.2.1 dX5_cover_85 (by decide) ?_
                exact ih_28 (a1 + 1) (by omega) (by omega) _ _ _ (fun g hg h => if h9 : onN g < a1 then hno g hg h9 else hno2 g (by omega) (by omega)) hP hS (lv_sub hl [1, 2, 3, 0] rfl)
              · rw [show (nI (M - 1) < nI b1) = (M - 1 < b1) from propext (nI_ltI (a := M - 1) (b := b1) (by omega) (by omega))] at c_5
                refine lv_iload C.1.1 C.1.2.1 dX5_cover_48 (lv_at hl 4 rfl) ?_
                refine a_F hS (run_S C hP hS hl.1 [.int (nI b1)] (kJ6_bitCount_0f7a4 l g n v (nI b1)) gX5_cover_J6_bitCount_0f7a4 hdJ6_bitCount_0f7a4 rfl ⟨rfl, rfl⟩ ⟨Nat.le_of_ble_eq_true rfl, Nat.le_of_ble_eq_true rfl⟩ rfl [] rfl (Nat.le_of_ble_eq_true rfl) dX5_cover_50 ⟨Nat.zero_le _, Nat.zero_le _⟩) (fun H locs hP hS => ?_)
                refine lv_topE (nI (onN b1)) (pop_on (by omega)) ?_
                have ho := (on_eq b1).2
                refine lv_iload_n C.1.1 C.1.2.1 dX5_cover_53 rfl (lv_at hl 3 rfl) ?_
                refine lv_icmp_ne (tgt := 76) C.1.1 C.1.2.1 dX5_cover_54 (by decide) (fun c_6 => ?_) (fun c_6 => ?_)
                · rw [show (nI (onN b1) = nI a1) = (onN b1 = a1) from propext (nI_eq (a := onN b1) (b := a1) (by omega) (by omega))] at c_6
                  refine lv_iinc (v := nI (b1 + 1)) (lv' := [(4, .int (nI (b1 + 1))), (0, .ref (gA g 0)), (1, .int (nI jx)), (2, .int (nI (M - 1))), (3, .int (nI a1))]) C.1.1 C.1.2.1 dX5_cover_76 hl (k := 4) rfl (nI_1 b1) (by decide) rfl (fun ls hl => ?_)
                  refine lv_goto (tgt := 42) C.1.1 C.1.2.1 dX5_cover_79 (by decide) ?_
                  exact ih_42 (b1 + 1) (by omega) (by omega) _ _ _ (fun g hg h => if h9 : g < b1 then hno2 g h9 h else by rw [show g = b1 by omega] at h ⊢; first | exact hQ | exact absurd h (by assumption)) hP hS (lv_sub hl [1, 2, 3, 4, 0] rfl)
                · rw [show (nI (onN b1) = nI a1) = (onN b1 = a1) from propext (nI_eq (a := onN b1) (b := a1) (by omega) (by omega))] at c_6
                  refine lv_iload_n C.1.1 C.1.2.1 dX5_cover_57 rfl (lv_at hl 1 rfl) ?_
                  refine lv_aload_n C.1.1 C.1.2.1 dX5_cover_58 rfl (lv_at hl 0 rfl) ?_
                  refine r_get C hP 0 5 (Nat.lt_of_lt_of_le (by decide) hn) rfl (by decide) rfl hi5 0 (by decide) (List.mem_of_getElem? (i := 2) rfl) rfl (val := .ref (gA g 1)) rfl dX5_cover_59 ?_
                  refine lv_iload C.1.1 C.1.2.1 dX5_cover_62 (lv_at hl 4 rfl) ?_
                  refine a_F hS (run_V C hP hS hl.1 1 2 (Nat.lt_of_lt_of_le (by decide) hn) rfl (by decide) rfl [.int (nI b1)] (kX2_wantedBy l g n v (nI b1) v 1 (stR v 1) N (Or.inl rfl) (scr_self (sam_rfl v).1) hC) gX5_cover_X2_wantedBy rfl hdX2_wantedBy rfl ⟨rfl, rfl⟩ ⟨Nat.le_of_ble_eq_true rfl, Nat.le_of_ble_eq_true rfl⟩ rfl [.int (nI jx)] rfl (Nat.le_of_ble_eq_true rfl) dX5_cover_64 ⟨Nat.zero_le _, Nat.zero_le _⟩) (fun H locs hP hS => ?_)
                  refine lv_topE (wbM (v.1 54) (nI b1) N) (wb_cong (agr_symm hA) h8 N (Nat.le_refl N)) ?_
                  refine lv_iconst (v := (-1)) C.1.1 C.1.2.1 dX5_cover_67 rfl ?_
                  refine lv_ixor C.1.1 C.1.2.1 dX5_cover_68 ?_
                  refine lv_iand C.1.1 C.1.2.1 dX5_cover_69 ?_
                  refine lv_if_ne (tgt := 76) C.1.1 C.1.2.1 dX5_cover_70 (by decide) (fun c_7 => ?_) (fun c_7 => ?_)
                  · skip
                    have hQ : ¬ leftM (v.1 54) (nI jx) (nI b1) N = 0 := by rw [left_wb]; exact c_7
                    refine lv_iinc (v := nI (b1 + 1)) (lv' := [(4, .int (nI (b1 + 1))), (0, .ref (gA g 0)), (1, .int (nI jx)), (2, .int (nI (M - 1))), (3, .int (nI a1))]) C.1.1 C.1.2.1 dX5_cover_76 hl (k := 4) rfl (nI_1 b1) (by decide) rfl (fun ls hl => ?_)
                    refine lv_goto (tgt := 42) C.1.1 C.1.2.1 dX5_cover_79 (by decide) ?_
                    exact ih_42 (b1 + 1) (by omega) (by omega) _ _ _ (fun g hg h => if h9 : g < b1 then hno2 g h9 h else by rw [show g = b1 by omega] at h ⊢; first | exact hQ | exact absurd h (by assumption)) hP hS (lv_sub hl [1, 2, 3, 4, 0] rfl)
                  · skip
                    have hQ : leftM (v.1 54) (nI jx) (nI b1) N = 0 := by rw [left_wb]; exact c_7
                    refine lv_iload C.1.1 C.1.2.1 dX5_cover_73 (lv_at hl 4 rfl) ?_
                    have eb : cvM (v.1 54) (nI jx) N M = nI b1 := (cv_bs _ _ _ _).trans (bs_some (by omega) (by omega) hQ (fun g hg ho => hno g hg (by omega)) (fun g hg ho => hno2 g hg (by omega)))
                    exact t_P C rfl hP hS (ps_eq (u := v) hR (show coverM v (nI jx) = (nI b1, v) from by simp only [coverM, nM_eq hM, cif_pos kb_1, tn_nI (show jx < 2 ^ 31 by omega), ← hM2, eb, if_neg (show ¬ nI b1 < 0 from fun z => absurd (nI_pos' (by omega)) (fa_lt_nle z))]) rfl (sam_rfl v)) (rsc_rfl v) dX5_cover_75
          exact lp_42 (M + 1) 0 (Nat.zero_le _) (by omega) _ _ _ (fun g hg h => absurd hg (Nat.not_lt_zero g)) hP hS (lv_sub hl [1, 2, 3, 4, 0] rfl)
    exact lp_28 (N + 1 + 1) 0 (Nat.zero_le _) (by omega) _ _ _ (fun g hg h => absurd h (Nat.not_lt_zero _)) hP hS (lv_sub hl [2, 3, 1, 0] rfl)
  · skip
    have b_1 := fun h => b_1 ((in_iffC 4096 (by decide) (by decide)).mpr h)
    refine lv_if_ne (tgt := 18) C.1.1 C.1.2.1 dX5_cover_8 (by decide) (fun c_8 => absurd c_8 (by decide)) (fun _ => ?_)
    refine lv_aload_n C.1.1 C.1.2.1 dX5_cover_11 rfl (lv_at hl 0 rfl) ?_
    refine lv_ldc (v := (-1000001)) C.1.1 C.1.2.1 C.1.2.2.2.1 (C.1.2.2.2.2 _ (List.mem_of_getElem? (i := 1) rfl)) dX5_cover_12 ?_
    refine a_F hS (run_V C hP hS hl.1 0 5 (Nat.lt_of_lt_of_le (by decide) hn) rfl (by decide) rfl [.int (-1000001)] (kX5_finding l g n v 0 (by decide) (-1000001) rfl) gX5_cover_X5_finding rfl hdX5_finding rfl ⟨rfl, rfl⟩ ⟨Nat.le_of_ble_eq_true rfl, Nat.le_of_ble_eq_true rfl⟩ rfl [] rfl (Nat.le_of_ble_eq_true rfl) dX5_cover_14 ⟨Nat.zero_le _, Nat.zero_le _⟩) (fun H locs hP hS => ?_)
    have e54_9 : (fnC v 0).1 54 = v.1 54 := (upw_ne _ _ (by decide))
    exact t_P C rfl hP hS (ps_fd (f := fun u => coverM u x) hR (sam_rfl v) (by decide) (by simp only [coverM, nM_of e54_9 hM, e54_9, cif_neg b_1]) rfl) (rsc_trans (rsc_rfl v) (rsc_w _ _ (by decide))) dX5_cover_17

abbrev rmX5_commonDivisor : Room := { frames := 1, cells := 0, slots := 0, locals := 24 }
set_option maxHeartbeats 4000000 in
set_option maxRecDepth 100000 in
theorem kX5_commonDivisor (l : Launch) (g : GG) (n : Nat) (v : SV) (A : Nat) (hA : A < 13) : Met l yX5_commonDivisor wsX5_commonDivisor rmX5_commonDivisor (PW g n v [.int (nI A), .int 12]) (QF g n (nI (Nat.gcd A 12)) v) 0 0 (wA g n) := by
  refine Met.begin RX5 rfl (by decide) rfl (Nat.le_of_ble_eq_true rfl) ?_
  intro p e s m args below meth c ls ha C hP hS hl
  have hn : 64 ≤ n := C.2.1.1.2.1
  have hl : lv_has ls 3 [(0, .int (nI A)), (1, .int 12)] := hl
  refine lv_iload_n C.1.1 C.1.2.1 dX5_commonDivisor_0 rfl (lv_at hl 0 rfl) ?_
  refine lv_iload_n C.1.1 C.1.2.1 dX5_commonDivisor_1 rfl (lv_at hl 1 rfl) ?_
  refine va_mmax C.1.1 C.1.2.1 (C.1.2.2.1.trans hl.1.symm) C.1.2.2.2.1 (C.1.2.2.2.2 _ (List.mem_of_getElem? (i := 1) rfl)) (C.1.2.2.2.2 _ (List.mem_of_getElem? (i := 2) rfl)) (C.1.2.2.2.2 _ (List.mem_of_getElem? (i := 3) rfl)) (C.1.2.2.2.2 _ (List.mem_of_getElem? (i := 4) rfl)) (Nat.le_of_ble_eq_true rfl) (Nat.le_of_ble_eq_true rfl) (Nat.le_refl _) (Nat.le_refl _) dX5_commonDivisor_2 ?_
  refine lv_topE 12 (mx12 hA) ?_
  refine lv_istore_n (lv' := [(2, .int 12), (0, .int (nI A)), (1, .int 12)]) C.1.1 C.1.2.1 dX5_commonDivisor_5 rfl hl (by decide) rfl (fun ls hl => ?_)
  have lp_6 : ∀ (k_6 i : Nat), i ≤ 11 → 11 + 1 ≤ i + k_6 → ∀ (H : Heap) (locs : List Loc) (ls : Array Slot), (∀ t, t < i → ¬ (A % (12 - t) = 0 ∧ 12 % (12 - t) = 0)) → va_P g.1 vwCl (wl g n v) H → va_S (wA g n) s.heap H locs → lv_has ls 3 [(0, .int (nI A)), (1, .int 12), (2, .int (nI (12 - i)))] → W p l e rmX5_commonDivisor s m args below meth c H locs 0 0 (MQ below (QF g n (nI (Nat.gcd A 12)) v) args s 0 0 (wA g n)) (F0 m 6 ls []) := by
    clear hP hS hl
    intro k_6
    induction k_6 with
    | zero => exact fun i h1 h2 => absurd h2 (by omega)
    | succ k_6 ih_6 =>
      intro i hi_6 hk_6 H locs ls hno hP hS hl
      refine lv_iload_n C.1.1 C.1.2.1 dX5_commonDivisor_6 rfl (lv_at hl 2 rfl) ?_
      refine lv_iconst (v := 1) C.1.1 C.1.2.1 dX5_commonDivisor_7 rfl ?_
      refine lv_icmp_le (tgt := 31) C.1.1 C.1.2.1 dX5_commonDivisor_8 (by decide) (fun c_1 => ?_) (fun c_1 => ?_)
      · rw [show (nI (12 - i) ≤ 1) = (12 - i ≤ 1) from propext (nI_leI (a := 12 - i) (b := 1) (by omega) (by omega))] at c_1
        refine lv_iconst (v := 1) C.1.1 C.1.2.1 dX5_commonDivisor_31 rfl ?_
        exact t_F C rfl hP hS (by rw [cd_end A hA (fun t ht => hno t (by omega))]; rfl) rfl dX5_commonDivisor_32
      · rw [show (nI (12 - i) ≤ 1) = (12 - i ≤ 1) from propext (nI_leI (a := 12 - i) (b := 1) (by omega) (by omega))] at c_1
        have hm1 := Nat.mod_lt A (show 0 < 12 - i by omega)
        have hm2 := Nat.mod_lt 12 (show 0 < 12 - i by omega)
        refine lv_iload_n C.1.1 C.1.2.1 dX5_commonDivisor_11 rfl (lv_at hl 0 rfl) ?_
        refine lv_iload_n C.1.1 C.1.2.1 dX5_commonDivisor_12 rfl (lv_at hl 2 rfl) ?_
        refine lv_irem C.1.1 C.1.2.1 dX5_commonDivisor_13 (nI_nz (by omega) (by omega)) ?_
        refine lv_topE (nI (A % (12 - i))) (pk_rem (by omega) (by omega) (by omega)) ?_
        refine lv_if_ne (tgt := 25) C.1.1 C.1.2.1 dX5_commonDivisor_14 (by decide) (fun c_2 => ?_) (fun c_2 => ?_)
        · rw [show (nI (A % (12 - i)) = 0) = (A % (12 - i) = 0) from propext (nI_eq (a := A % (12 - i)) (b := 0) (by omega) (by omega))] at c_2
          refine lv_iinc (v := nI (12 - (i + 1))) (lv' := [(2, .int (nI (12 - (i + 1)))), (0, .int (nI A)), (1, .int 12)]) C.1.1 C.1.2.1 dX5_commonDivisor_25 hl (k := 2) rfl (dec12 i (by omega)) (by decide) rfl (fun ls hl => ?_)
          refine lv_goto (tgt := 6) C.1.1 C.1.2.1 dX5_commonDivisor_28 (by decide) ?_
          exact ih_6 (i + 1) (by omega) (by omega) _ _ _ (fun t ht => if h9 : t < i then hno t h9 else by rw [show t = i by omega]; exact fun z => c_2 z.1) hP hS (lv_sub hl [1, 2, 0] rfl)
        · rw [show (nI (A % (12 - i)) = 0) = (A % (12 - i) = 0) from propext (nI_eq (a := A % (12 - i)) (b := 0) (by omega) (by omega))] at c_2
          refine lv_iload_n C.1.1 C.1.2.1 dX5_commonDivisor_17 rfl (lv_at hl 1 rfl) ?_
          refine lv_iload_n C.1.1 C.1.2.1 dX5_commonDivisor_18 rfl (lv_at hl 2 rfl) ?_
          refine lv_irem C.1.1 C.1.2.1 dX5_commonDivisor_19 (nI_nz (by omega) (by omega)) ?_
          refine lv_topE (nI (12 % (12 - i))) (pk_rem (a := 12) (d := 12 - i) (by decide) (by omega) (by omega)) ?_
          refine lv_if_ne (tgt := 25) C.1.1 C.1.2.1 dX5_commonDivisor_20 (by decide) (fun c_3 => ?_) (fun c_3 => ?_)
          · rw [show (nI (12 % (12 - i)) = 0) = (12 % (12 - i) = 0) from propext (nI_eq (a := 12 % (12 - i)) (b := 0) (by omega) (by omega))] at c_3
            refine lv_iinc (v := nI (12 - (i + 1))) (lv' := [(2, .int (nI (12 - (i + 1)))), (0, .int (nI A)), (1, .int 12)]) C.1.1 C.1.2.1 dX5_commonDivisor_25 hl (k := 2) rfl (dec12 i (by omega)) (by decide) rfl (fun ls hl => ?_)
            refine lv_goto (tgt := 6) C.1.1 C.1.2.1 dX5_commonDivisor_28 (by decide) ?_
            exact ih_6 (i + 1) (by omega) (by omega) _ _ _ (fun t ht => if h9 : t < i then hno t h9 else by rw [show t = i by omega]; exact fun z => c_3 z.2) hP hS (lv_sub hl [1, 2, 0] rfl)
          · rw [show (nI (12 % (12 - i)) = 0) = (12 % (12 - i) = 0) from propext (nI_eq (a := 12 % (12 - i)) (b := 0) (by omega) (by omega))] at c_3
            refine lv_iload_n C.1.1 C.1.2.1 dX5_commonDivisor_23 rfl (lv_at hl 2 rfl) ?_
            exact t_F C rfl hP hS (by rw [cd_dec A hA i (by omega) hno ⟨c_2, c_3⟩]) rfl dX5_commonDivisor_24
  exact lp_6 (11 + 1) 0 (Nat.zero_le _) (by omega) _ _ _ (fun t ht => absurd ht (Nat.not_lt_zero t)) hP hS (lv_sub hl [1, 2, 0] rfl)

abbrev rmX5_power : Room := { frames := 0, cells := 0, slots := 0, locals := 0 }
set_option maxHeartbeats 4000000 in
set_option maxRecDepth 100000 in
theorem kX5_power (l : Launch) (g : GG) (n : Nat) (v : SV) (b : Int64) (q : Nat) (hq : q < 2 ^ 31) : Met l yX5_power wsX5_power rmX5_power (PW g n v [.long b, .int (nI q)]) (QJ g n (powL b q) v) 0 0 (wA g n) := by
  refine Met.begin RX5 rfl (by decide) rfl (Nat.le_of_ble_eq_true rfl) ?_
  intro p e s m args below meth c ls ha C hP hS hl
  have hn : 64 ≤ n := C.2.1.1.2.1
  have hl : lv_has ls 6 [(0, .long b), (2, .int (nI q))] := hl
  refine lv_lconst (v := 1) C.1.1 C.1.2.1 dX5_power_0 rfl ?_
  refine lv_lstore_n (lv' := [(3, .long 1), (0, .long b), (2, .int (nI q))]) C.1.1 C.1.2.1 dX5_power_1 rfl hl (by decide) rfl (fun ls hl => ?_)
  refine lv_iconst (v := 0) C.1.1 C.1.2.1 dX5_power_2 rfl ?_
  refine lv_istore (lv' := [(5, .int 0), (3, .long 1), (0, .long b), (2, .int (nI q))]) C.1.1 C.1.2.1 dX5_power_3 hl (by decide) rfl (fun ls hl => ?_)
  have lp_5 : ∀ (k_5 i : Nat), i ≤ q → q + 1 ≤ i + k_5 → ∀ (H : Heap) (locs : List Loc) (ls : Array Slot), va_P g.1 vwCl (wl g n v) H → va_S (wA g n) s.heap H locs → lv_has ls 6 [(0, .long b), (2, .int (nI q)), (3, .long (powL b i)), (5, .int (nI i))] → W p l e rmX5_power s m args below meth c H locs 0 0 (MQ below (QJ g n (powL b q) v) args s 0 0 (wA g n)) (F0 m 5 ls []) := by
    clear hP hS hl
    intro k_5
    induction k_5 with
    | zero => exact fun i h1 h2 => absurd h2 (by omega)
    | succ k_5 ih_5 =>
      intro i hi_5 hk_5 H locs ls hP hS hl
      refine lv_iload C.1.1 C.1.2.1 dX5_power_5 (lv_at hl 3 rfl) ?_
      refine lv_iload_n C.1.1 C.1.2.1 dX5_power_7 rfl (lv_at hl 1 rfl) ?_
      refine lv_icmp_ge (tgt := 21) C.1.1 C.1.2.1 dX5_power_8 (by decide) (fun c_1 => ?_) (fun c_1 => ?_)
      · rw [show (nI q ≤ nI i) = (q ≤ i) from propext (nI_leI (a := q) (b := i) (by omega) (by omega))] at c_1
        refine lv_lload_n C.1.1 C.1.2.1 dX5_power_21 rfl (lv_at hl 2 rfl) ?_
        exact t_J C rfl hP hS (by rw [show q = i by omega]) rfl dX5_power_22
      · rw [show (nI q ≤ nI i) = (q ≤ i) from propext (nI_leI (a := q) (b := i) (by omega) (by omega))] at c_1
        refine lv_lload_n C.1.1 C.1.2.1 dX5_power_11 rfl (lv_at hl 2 rfl) ?_
        refine lv_lload_n C.1.1 C.1.2.1 dX5_power_12 rfl (lv_at hl 0 rfl) ?_
        refine lv_lmul C.1.1 C.1.2.1 dX5_power_13 ?_
        refine lv_lstore_n (lv' := [(3, .long ((powL b i) * b)), (0, .long b), (2, .int (nI q)), (5, .int (nI i))]) C.1.1 C.1.2.1 dX5_power_14 rfl hl (by decide) rfl (fun ls hl => ?_)
        refine lv_iinc (v := nI (i + 1)) (lv' := [(5, .int (nI (i + 1))), (3, .long ((powL b i) * b)), (0, .long b), (2, .int (nI q))]) C.1.1 C.1.2.1 dX5_power_15 hl (k := 3) rfl (nI_1 i) (by decide) rfl (fun ls hl => ?_)
        refine lv_goto (tgt := 5) C.1.1 C.1.2.1 dX5_power_18 (by decide) ?_
        exact ih_5 (i + 1) (by omega) (by omega) _ _ _ hP hS (lv_sub hl [2, 3, 1, 0] rfl)
  exact lp_5 (q + 1) 0 (Nat.zero_le _) (by omega) _ _ _ hP hS (lv_sub hl [2, 3, 1, 0] rfl)

abbrev rmX5_odds : Room := { frames := 2, cells := 0, slots := 0, locals := 46 }
set_option maxHeartbeats 4000000 in
set_option maxRecDepth 100000 in
theorem kX5_odds (l : Launch) (g : GG) (n : Nat) (v : SV) (x y z : Int32) (N : Nat) (hR : Rl v N) : Met l yX5_odds wsX5_odds rmX5_odds (PW g n v [.ref (gA g 0), .int x, .int y, .int z]) (QPL g n v (fun u => oddsM u x y z)) 0 0 (wA g n) := by
  refine Met.begin RX5 rfl (by decide) rfl (Nat.le_of_ble_eq_true rfl) ?_
  intro p e s m args below meth c ls ha C hP hS hl
  have hn : 64 ≤ n := C.2.1.1.2.1
  have hi0 : ∀ w ∈ u_ws RX0 TX0 6, w ∈ wsX5_odds := by decide +kernel
  have hi2 : ∀ w ∈ u_ws RX2 TX2 11, w ∈ wsX5_odds := by decide +kernel
  have hi5 : ∀ w ∈ u_ws RX5 TX5 8, w ∈ wsX5_odds := by decide +kernel
  have hl : lv_has ls 6 [(0, .ref (gA g 0)), (1, .int x), (2, .int y), (3, .int z)] := hl
  have hC := hR.1.1
  have hA := hR.1.2
  have h8 := hC.1
  have hD : okC (v.1 54) N := okC_agr (agr_symm hA) hC
  have hM := okC_M hD
  refine lv_aload_n C.1.1 C.1.2.1 dX5_odds_0 rfl (lv_at hl 0 rfl) ?_
  refine r_get C hP 0 5 (Nat.lt_of_lt_of_le (by decide) hn) rfl (by decide) rfl hi5 0 (by decide) (List.mem_of_getElem? (i := 1) rfl) rfl (val := .ref (gA g 1)) rfl dX5_odds_1 ?_
  refine lv_iload_n C.1.1 C.1.2.1 dX5_odds_4 rfl (lv_at hl 1 rfl) ?_
  refine a_B hS (run_V C hP hS hl.1 1 2 (Nat.lt_of_lt_of_le (by decide) hn) rfl (by decide) rfl [.int x] (kX2_has l g n v x v 1 (stR v 1) N (Or.inl rfl) (scr_self (sam_rfl v).1) hC) gX5_odds_X2_has rfl hdX2_has rfl ⟨rfl, rfl⟩ ⟨Nat.le_of_ble_eq_true rfl, Nat.le_of_ble_eq_true rfl⟩ rfl [] rfl (Nat.le_of_ble_eq_true rfl) dX5_odds_5 ⟨Nat.zero_le _, Nat.zero_le _⟩) (fun b_1 H locs hP hS => ?_) (fun b_1 H locs hP hS => ?_)
  · skip
    have kb_1 := b_1
    obtain ⟨jx, hjx, rfl⟩ := b_1
    refine lv_if_eq (tgt := 30) C.1.1 C.1.2.1 dX5_odds_8 (by decide) (fun c_2 => absurd c_2 (by decide)) (fun _ => ?_)
    refine lv_iload_n C.1.1 C.1.2.1 dX5_odds_11 rfl (lv_at hl 2 rfl) ?_
    refine lv_iconst (v := 0) C.1.1 C.1.2.1 dX5_odds_12 rfl ?_
    refine lv_bipush (v := 17) C.1.1 C.1.2.1 dX5_odds_13 rfl ?_
    refine a_B hS (run_S C hP hS hl.1 [.int y, .int 0, .int 17] (kX5_isWithin l g n v y 0 17) gX5_odds_X5_isWithin hdX5_isWithin rfl ⟨rfl, rfl⟩ ⟨Nat.le_of_ble_eq_true rfl, Nat.le_of_ble_eq_true rfl⟩ rfl [] rfl (Nat.le_of_ble_eq_true rfl) dX5_odds_15 ⟨Nat.zero_le _, Nat.zero_le _⟩) (fun b_3 H locs hP hS => ?_) (fun b_3 H locs hP hS => ?_)
    · skip
      have b_3 := (in_iffC 18 (by decide) (by decide)).mp b_3
      have kb_3 := b_3
      obtain ⟨jy, hjy, rfl⟩ := b_3
      refine lv_if_eq (tgt := 30) C.1.1 C.1.2.1 dX5_odds_18 (by decide) (fun c_4 => absurd c_4 (by decide)) (fun _ => ?_)
      refine lv_iload_n C.1.1 C.1.2.1 dX5_odds_21 rfl (lv_at hl 3 rfl) ?_
      refine lv_iconst (v := 0) C.1.1 C.1.2.1 dX5_odds_22 rfl ?_
      refine lv_iconst (v := 1) C.1.1 C.1.2.1 dX5_odds_23 rfl ?_
      refine a_B hS (run_S C hP hS hl.1 [.int z, .int 0, .int 1] (kX5_isWithin l g n v z 0 1) gX5_odds_X5_isWithin hdX5_isWithin rfl ⟨rfl, rfl⟩ ⟨Nat.le_of_ble_eq_true rfl, Nat.le_of_ble_eq_true rfl⟩ rfl [] rfl (Nat.le_of_ble_eq_true rfl) dX5_odds_24 ⟨Nat.zero_le _, Nat.zero_le _⟩) (fun b_5 H locs hP hS => ?_) (fun b_5 H locs hP hS => ?_)
      · skip
        have b_5 := (in_iffC 2 (by decide) (by decide)).mp b_5
        have kb_5 := b_5
        obtain ⟨jz, hjz, rfl⟩ := b_5
        refine lv_if_ne (tgt := 38) C.1.1 C.1.2.1 dX5_odds_27 (by decide) (fun _ => ?_) (fun c_6 => absurd c_6 (by decide))
        refine lv_aload_n C.1.1 C.1.2.1 dX5_odds_38 rfl (lv_at hl 0 rfl) ?_
        refine r_get C hP 0 5 (Nat.lt_of_lt_of_le (by decide) hn) rfl (by decide) rfl hi5 0 (by decide) (List.mem_of_getElem? (i := 1) rfl) rfl (val := .ref (gA g 1)) rfl dX5_odds_39 ?_
        refine r_get C hP 1 2 (Nat.lt_of_lt_of_le (by decide) hn) rfl (by decide) rfl hi2 9 (by decide) (List.mem_of_getElem? (i := 3) rfl) rfl (val := .ref (gA g 4)) rfl dX5_odds_42 ?_
        refine lv_iload_n C.1.1 C.1.2.1 dX5_odds_45 rfl (lv_at hl 1 rfl) ?_
        refine r_aald C hP 4 (Nat.lt_of_lt_of_le (by decide) hn) rfl jx rfl (by omega) dX5_odds_46 ?_
        refine r_get C hP (1 + 5 + jx) 0 (by omega) (kd_stR 1 (Or.inl rfl) jx (by omega)) (by decide) rfl hi0 2 (by decide) (List.mem_of_getElem? (i := 4) rfl) rfl (val := .int (v.1 (1 + 5 + jx) 2)) rfl dX5_odds_47 ?_
        refine lv_topE (rowM (v.1 54) jx 2) ((scr_rd (i := 25 + 8 * 2 + jx) (sam_rfl v).1 (sl_5 (r := jx) (w := 2) (by omega) (by decide)) (by omega)).trans (agr_six (agr_symm hA) hjx h8 2 (by decide))) ?_
        obtain ⟨W, hW, eW⟩ := okC_R hD hjx 2 (by decide)
        obtain ⟨A, hA13, eA⟩ : ∃ A, A < 13 ∧ onesF (rowM (v.1 54) jx 2) 12 = nI A := by obtain ⟨a, h1, h2⟩ := ones_nat (rowM (v.1 54) jx 2) 12; exact ⟨a, by omega, h2⟩
        have hg := gcd_pos A hA13
        refine a_F hS (run_S C hP hS hl.1 [.int (rowM (v.1 54) jx 2)] (kJ6_bitCount_0f7a4 l g n v (rowM (v.1 54) jx 2)) gX5_odds_J6_bitCount_0f7a4 hdJ6_bitCount_0f7a4 rfl ⟨rfl, rfl⟩ ⟨Nat.le_of_ble_eq_true rfl, Nat.le_of_ble_eq_true rfl⟩ rfl [] rfl (Nat.le_of_ble_eq_true rfl) dX5_odds_50 ⟨Nat.zero_le _, Nat.zero_le _⟩) (fun H locs hP hS => ?_)
        refine lv_topE (nI A) ((pop_onesE ⟨W, hW, eW⟩).trans eA) ?_
        refine lv_istore (lv' := [(4, .int (nI A)), (0, .ref (gA g 0)), (1, .int (nI jx)), (2, .int (nI jy)), (3, .int (nI jz))]) C.1.1 C.1.2.1 dX5_odds_53 hl (by decide) rfl (fun ls hl => ?_)
        refine lv_iload C.1.1 C.1.2.1 dX5_odds_55 (lv_at hl 0 rfl) ?_
        refine lv_bipush (v := 12) C.1.1 C.1.2.1 dX5_odds_57 rfl ?_
        refine a_F hS (run_S C hP hS hl.1 [.int (nI A), .int 12] (kX5_commonDivisor l g n v A hA13) gX5_odds_X5_commonDivisor hdX5_commonDivisor rfl ⟨rfl, rfl⟩ ⟨Nat.le_of_ble_eq_true rfl, Nat.le_of_ble_eq_true rfl⟩ rfl [] rfl (Nat.le_of_ble_eq_true rfl) dX5_odds_59 ⟨Nat.zero_le _, Nat.zero_le _⟩) (fun H locs hP hS => ?_)
        refine lv_topE (nI (Nat.gcd A 12)) rfl ?_
        refine lv_istore (lv' := [(5, .int (nI (Nat.gcd A 12))), (4, .int (nI A)), (0, .ref (gA g 0)), (1, .int (nI jx)), (2, .int (nI jy)), (3, .int (nI jz))]) C.1.1 C.1.2.1 dX5_odds_62 hl (by decide) rfl (fun ls hl => ?_)
        refine lv_iload_n C.1.1 C.1.2.1 dX5_odds_64 rfl (lv_at hl 5 rfl) ?_
        refine lv_if_ne (tgt := 73) C.1.1 C.1.2.1 dX5_odds_65 (by decide) (fun c_7 => ?_) (fun c_7 => ?_)
        · rw [show (nI jz = 0) = (jz = 0) from propext (nI_eq (a := jz) (b := 0) (by omega) (by omega))] at c_7
          refine lv_bipush (v := 12) C.1.1 C.1.2.1 dX5_odds_73 rfl ?_
          refine lv_iconst (v := 1) C.1.1 C.1.2.1 dX5_odds_75 rfl ?_
          refine lv_iload C.1.1 C.1.2.1 dX5_odds_76 (lv_at hl 0 rfl) ?_
          refine va_mmax C.1.1 C.1.2.1 (C.1.2.2.1.trans hl.1.symm) C.1.2.2.2.1 (C.1.2.2.2.2 _ (List.mem_of_getElem? (i := 5) rfl)) (C.1.2.2.2.2 _ (List.mem_of_getElem? (i := 6) rfl)) (C.1.2.2.2.2 _ (List.mem_of_getElem? (i := 7) rfl)) (C.1.2.2.2.2 _ (List.mem_of_getElem? (i := 8) rfl)) (Nat.le_of_ble_eq_true rfl) (Nat.le_of_ble_eq_true rfl) (Nat.le_refl _) (Nat.le_refl _) dX5_odds_78 ?_
          refine lv_topE (nI (Nat.gcd A 12)) (mx1 hg.1 hg.2) ?_
          refine lv_idiv C.1.1 C.1.2.1 dX5_odds_81 (nI_nz (by omega) (by omega)) ?_
          refine lv_topE (nI (12 / Nat.gcd A 12)) (pk_div (a := 12) (d := Nat.gcd A 12) (by omega) (by omega) (by omega)) ?_
          refine lv_i2l (v := (nI (12 / Nat.gcd A 12)).toInt64) C.1.1 C.1.2.1 dX5_odds_82 rfl ?_
          refine lv_iload_n C.1.1 C.1.2.1 dX5_odds_83 rfl (lv_at hl 4 rfl) ?_
          refine a_J hS (run_S C hP hS hl.1 [.long ((nI (12 / Nat.gcd A 12)).toInt64), .int (nI jy)] (kX5_power l g n v ((nI (12 / Nat.gcd A 12)).toInt64) jy (by omega)) gX5_odds_X5_power hdX5_power rfl ⟨rfl, rfl⟩ ⟨Nat.le_of_ble_eq_true rfl, Nat.le_of_ble_eq_true rfl⟩ rfl [] rfl (Nat.le_of_ble_eq_true rfl) dX5_odds_84 ⟨Nat.zero_le _, Nat.zero_le _⟩) (fun H locs hP hS => ?_)
          exact r_lret C rfl hP hS (⟨psl_eq hR (show oddsM v (nI jx) (nI jy) (nI jz) = (powL ((nI (12 / Nat.gcd A 12)).toInt64) jy, v) from by simp only [oddsM, nM_eq hM, cif_pos kb_1, cif_pos kb_3, cif_pos kb_5, tn_nI (show jx < 2 ^ 31 by omega), tn_nI (show jy < 2 ^ 31 by omega), tn_nI (show jz < 2 ^ 31 by omega), eA, tn_nI (show A < 2 ^ 31 by omega), fracF, if_neg (nI_nz (show 0 < jz by omega) (by omega))]), rsc_rfl v⟩) dX5_odds_87
        · rw [show (nI jz = 0) = (jz = 0) from propext (nI_eq (a := jz) (b := 0) (by omega) (by omega))] at c_7
          refine lv_iload C.1.1 C.1.2.1 dX5_odds_68 (lv_at hl 1 rfl) ?_
          refine lv_goto (tgt := 75) C.1.1 C.1.2.1 dX5_odds_70 (by decide) ?_
          refine lv_iconst (v := 1) C.1.1 C.1.2.1 dX5_odds_75 rfl ?_
          refine lv_iload C.1.1 C.1.2.1 dX5_odds_76 (lv_at hl 0 rfl) ?_
          refine va_mmax C.1.1 C.1.2.1 (C.1.2.2.1.trans hl.1.symm) C.1.2.2.2.1 (C.1.2.2.2.2 _ (List.mem_of_getElem? (i := 5) rfl)) (C.1.2.2.2.2 _ (List.mem_of_getElem? (i := 6) rfl)) (C.1.2.2.2.2 _ (List.mem_of_getElem? (i := 7) rfl)) (C.1.2.2.2.2 _ (List.mem_of_getElem? (i := 8) rfl)) (Nat.le_of_ble_eq_true rfl) (Nat.le_of_ble_eq_true rfl) (Nat.le_refl _) (Nat.le_refl _) dX5_odds_78 ?_
          refine lv_topE (nI (Nat.gcd A 12)) (mx1 hg.1 hg.2) ?_
          refine lv_idiv C.1.1 C.1.2.1 dX5_odds_81 (nI_nz (by omega) (by omega)) ?_
          refine lv_topE (nI (A / Nat.gcd A 12)) (pk_div (a := A) (d := Nat.gcd A 12) (by omega) (by omega) (by omega)) ?_
          refine lv_i2l (v := (nI (A / Nat.gcd A 12)).toInt64) C.1.1 C.1.2.1 dX5_odds_82 rfl ?_
          refine lv_iload_n C.1.1 C.1.2.1 dX5_odds_83 rfl (lv_at hl 4 rfl) ?_
          refine a_J hS (run_S C hP hS hl.1 [.long ((nI (A / Nat.gcd A 12)).toInt64), .int (nI jy)] (kX5_power l g n v ((nI (A / Nat.gcd A 12)).toInt64) jy (by omega)) gX5_odds_X5_power hdX5_power rfl ⟨rfl, rfl⟩ ⟨Nat.le_of_ble_eq_true rfl, Nat.le_of_ble_eq_true rfl⟩ rfl [] rfl (Nat.le_of_ble_eq_true rfl) dX5_odds_84 ⟨Nat.zero_le _, Nat.zero_le _⟩) (fun H locs hP hS => ?_)
          exact r_lret C rfl hP hS (⟨psl_eq hR (show oddsM v (nI jx) (nI jy) (nI jz) = (powL ((nI (A / Nat.gcd A 12)).toInt64) jy, v) from by simp only [oddsM, nM_eq hM, cif_pos kb_1, cif_pos kb_3, cif_pos kb_5, tn_nI (show jx < 2 ^ 31 by omega), tn_nI (show jy < 2 ^ 31 by omega), tn_nI (show jz < 2 ^ 31 by omega), eA, tn_nI (show A < 2 ^ 31 by omega), fracF, if_pos (show nI jz = 0 by rw [c_7]; rfl)]), rsc_rfl v⟩) dX5_odds_87
      · skip
        have b_5 := fun h => b_5 ((in_iffC 2 (by decide) (by decide)).mpr h)
        refine lv_if_ne (tgt := 38) C.1.1 C.1.2.1 dX5_odds_27 (by decide) (fun c_8 => absurd c_8 (by decide)) (fun _ => ?_)
        refine lv_aload_n C.1.1 C.1.2.1 dX5_odds_30 rfl (lv_at hl 0 rfl) ?_
        refine lv_ldc (v := (-1000001)) C.1.1 C.1.2.1 C.1.2.2.2.1 (C.1.2.2.2.2 _ (List.mem_of_getElem? (i := 2) rfl)) dX5_odds_31 ?_
        refine a_F hS (run_V C hP hS hl.1 0 5 (Nat.lt_of_lt_of_le (by decide) hn) rfl (by decide) rfl [.int (-1000001)] (kX5_finding l g n v 0 (by decide) (-1000001) rfl) gX5_odds_X5_finding rfl hdX5_finding rfl ⟨rfl, rfl⟩ ⟨Nat.le_of_ble_eq_true rfl, Nat.le_of_ble_eq_true rfl⟩ rfl [] rfl (Nat.le_of_ble_eq_true rfl) dX5_odds_33 ⟨Nat.zero_le _, Nat.zero_le _⟩) (fun H locs hP hS => ?_)
        refine lv_i2l (v := ((-1000001) : Int32).toInt64) C.1.1 C.1.2.1 dX5_odds_36 rfl ?_
        have e54_9 : (fnC v 0).1 54 = v.1 54 := (upw_ne _ _ (by decide))
        exact r_lret C rfl hP hS (⟨psl_fd (f := fun u => oddsM u (nI jx) (nI jy) z) hR (by simp only [oddsM, nM_of e54_9 hM, e54_9, cif_pos kb_1, cif_pos kb_3, cif_neg b_5, tn_nI (show jx < 2 ^ 31 by omega), tn_nI (show jy < 2 ^ 31 by omega)]), rsc_w _ _ (by decide)⟩) dX5_odds_37
    · skip
      have b_3 := fun h => b_3 ((in_iffC 18 (by decide) (by decide)).mpr h)
      refine lv_if_eq (tgt := 30) C.1.1 C.1.2.1 dX5_odds_18 (by decide) (fun _ => ?_) (fun c_10 => absurd c_10 (by decide))
      refine lv_aload_n C.1.1 C.1.2.1 dX5_odds_30 rfl (lv_at hl 0 rfl) ?_
      refine lv_ldc (v := (-1000001)) C.1.1 C.1.2.1 C.1.2.2.2.1 (C.1.2.2.2.2 _ (List.mem_of_getElem? (i := 2) rfl)) dX5_odds_31 ?_
      refine a_F hS (run_V C hP hS hl.1 0 5 (Nat.lt_of_lt_of_le (by decide) hn) rfl (by decide) rfl [.int (-1000001)] (kX5_finding l g n v 0 (by decide) (-1000001) rfl) gX5_odds_X5_finding rfl hdX5_finding rfl ⟨rfl, rfl⟩ ⟨Nat.le_of_ble_eq_true rfl, Nat.le_of_ble_eq_true rfl⟩ rfl [] rfl (Nat.le_of_ble_eq_true rfl) dX5_odds_33 ⟨Nat.zero_le _, Nat.zero_le _⟩) (fun H locs hP hS => ?_)
      refine lv_i2l (v := ((-1000001) : Int32).toInt64) C.1.1 C.1.2.1 dX5_odds_36 rfl ?_
      have e54_11 : (fnC v 0).1 54 = v.1 54 := (upw_ne _ _ (by decide))
      exact r_lret C rfl hP hS (⟨psl_fd (f := fun u => oddsM u (nI jx) y z) hR (by simp only [oddsM, nM_of e54_11 hM, e54_11, cif_pos kb_1, cif_neg b_3, tn_nI (show jx < 2 ^ 31 by omega)]), rsc_w _ _ (by decide)⟩) dX5_odds_37
  · skip
    refine lv_if_eq (tgt := 30) C.1.1 C.1.2.1 dX5_odds_8 (by decide) (fun _ => ?_) (fun c_12 => absurd c_12 (by decide))
    refine lv_aload_n C.1.1 C.1.2.1 dX5_odds_30 rfl (lv_at hl 0 rfl) ?_
    refine lv_ldc (v := (-1000001)) C.1.1 C.1.2.1 C.1.2.2.2.1 (C.1.2.2.2.2 _ (List.mem_of_getElem? (i := 2) rfl)) dX5_odds_31 ?_
    refine a_F hS (run_V C hP hS hl.1 0 5 (Nat.lt_of_lt_of_le (by decide) hn) rfl (by decide) rfl [.int (-1000001)] (kX5_finding l g n v 0 (by decide) (-1000001) rfl) gX5_odds_X5_finding rfl hdX5_finding rfl ⟨rfl, rfl⟩ ⟨Nat.le_of_ble_eq_true rfl, Nat.le_of_ble_eq_true rfl⟩ rfl [] rfl (Nat.le_of_ble_eq_true rfl) dX5_odds_33 ⟨Nat.zero_le _, Nat.zero_le _⟩) (fun H locs hP hS => ?_)
    refine lv_i2l (v := ((-1000001) : Int32).toInt64) C.1.1 C.1.2.1 dX5_odds_36 rfl ?_
    have e54_13 : (fnC v 0).1 54 = v.1 54 := (upw_ne _ _ (by decide))
    exact r_lret C rfl hP hS (⟨psl_fd (f := fun u => oddsM u x y z) hR (by simp only [oddsM, nM_of e54_13 hM, e54_13, cif_neg b_1]), rsc_w _ _ (by decide)⟩) dX5_odds_37

