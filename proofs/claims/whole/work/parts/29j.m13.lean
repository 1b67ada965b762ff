abbrev rmX6_item : Room := { frames := 5, cells := 0, slots := 0, locals := 111 }
set_option maxHeartbeats 4000000 in
set_option maxRecDepth 100000 in
theorem kX6_item (l : Launch) (g : GG) (n : Nat) (v : SV) (N : Nat) (w : SV) (T ct : Nat) (fa : Int32) (d : Nat → Int32) (hM : okM d N) (hv : v = psS w T ct fa d) (hT : w.1 53 7 = nI T) (hT2 : T ≤ 120) (hc : ct ≤ T) : Met l yX6_item wsX6_item rmX6_item (PW g n v [.ref (gA g 53)]) (QG g n (psQ w T (itF (bB w T) T (ct, fa, d)))) 0 0 (wA g n) := by
  refine Met.begin RX6 rfl (by decide) rfl (Nat.le_of_ble_eq_true rfl) ?_
  intro p e s m args below meth c ls ha C hP hS hl
  have hn : 64 ≤ n := C.2.1.1.2.1
  have hi6 : ∀ w ∈ u_ws RX6 TX6 17, w ∈ wsX6_item := by decide +kernel
  have hl : lv_has ls 2 [(0, .ref (gA g 53))] := hl
  rw [hv] at hP
  refine lv_aload_n C.1.1 C.1.2.1 dX6_item_0 rfl (lv_at hl 0 rfl) ?_
  refine a_F hS (run_V C hP hS hl.1 53 6 (Nat.lt_of_lt_of_le (by decide) hn) rfl (by decide) rfl [] (kX6_kindHere l g n (psS w T ct fa d) w T ct fa d rfl hT hT2 hc) gX6_item_X6_kindHere rfl hdX6_kindHere rfl ⟨rfl, rfl⟩ ⟨Nat.le_of_ble_eq_true rfl, Nat.le_of_ble_eq_true rfl⟩ rfl [] rfl (Nat.le_of_ble_eq_true rfl) dX6_item_1 ⟨Nat.zero_le _, Nat.zero_le _⟩) (fun H locs hP hS => ?_)
  refine lv_istore_n (lv' := [(1, .int (kindT (bB w T) T ct)), (0, .ref (gA g 53))]) C.1.1 C.1.2.1 dX6_item_4 rfl hl (by decide) rfl (fun ls hl => ?_)
  refine lv_iload_n C.1.1 C.1.2.1 dX6_item_5 rfl (lv_at hl 0 rfl) ?_
  refine lv_if_lt (tgt := 17) C.1.1 C.1.2.1 dX6_item_6 (by decide) (fun c_1 => ?_) (fun c_1 => ?_)
  · skip
    refine lv_aload_n C.1.1 C.1.2.1 dX6_item_17 rfl (lv_at hl 1 rfl) ?_
    refine lv_ldc2 (v := 1955331) C.1.1 C.1.2.1 C.1.2.2.2.1 (C.1.2.2.2.2 _ (List.mem_of_getElem? (i := 1) rfl)) dX6_item_18 ?_
    refine a_B hS (run_V C hP hS hl.1 53 6 (Nat.lt_of_lt_of_le (by decide) hn) rfl (by decide) rfl [.long 1955331] (kX6_isWord l g n (psS w T ct fa d) 1955331 w T ct fa d rfl hT hT2 hc) gX6_item_X6_isWord rfl hdX6_isWord rfl ⟨rfl, rfl⟩ ⟨Nat.le_of_ble_eq_true rfl, Nat.le_of_ble_eq_true rfl⟩ rfl [] rfl (Nat.le_of_ble_eq_true rfl) dX6_item_21 ⟨Nat.zero_le _, Nat.zero_le _⟩) (fun b_2 H locs hP hS => ?_) (fun b_2 H locs hP hS => ?_)
    · skip
      refine lv_if_eq (tgt := 34) C.1.1 C.1.2.1 dX6_item_24 (by decide) (fun c_3 => absurd c_3 (by decide)) (fun _ => ?_)
      refine lv_aload_n C.1.1 C.1.2.1 dX6_item_27 rfl (lv_at hl 1 rfl) ?_
      refine a_G hS (run_V C hP hS hl.1 53 6 (Nat.lt_of_lt_of_le (by decide) hn) rfl (by decide) rfl [] (kX6_crierHere l g n (psS w T ct fa d) w T ct fa d rfl hT hT2 hc) gX6_item_X6_crierHere rfl hdX6_crierHere rfl ⟨rfl, rfl⟩ ⟨Nat.le_of_ble_eq_true rfl, Nat.le_of_ble_eq_true rfl⟩ rfl [] rfl (Nat.le_of_ble_eq_true rfl) dX6_item_28 ⟨Nat.zero_le _, Nat.zero_le _⟩) (fun H locs hP hS => ?_)
      obtain ⟨q_4, hq_4⟩ : ∃ zz, zz = crF (bB w T) T (ct, fa, d) := ⟨_, rfl⟩
      rw [show psQ w T (crF (bB w T) T (ct, fa, d)) = psS w T q_4.1 q_4.2.1 q_4.2.2 from by rw [hq_4]] at hP
      have cq_4 : q_4.1 ≤ T := by rw [hq_4]; exact crF_le hc
      refine lv_goto (tgt := 55) C.1.1 C.1.2.1 dX6_item_31 (by decide) ?_
      exact t_G C rfl hP hS (by rw [itF, if_pos c_1, cif_pos b_2, ← hq_4]) dX6_item_55
    · skip
      refine lv_if_eq (tgt := 34) C.1.1 C.1.2.1 dX6_item_24 (by decide) (fun _ => ?_) (fun c_5 => absurd c_5 (by decide))
      refine lv_aload_n C.1.1 C.1.2.1 dX6_item_34 rfl (lv_at hl 1 rfl) ?_
      refine lv_ldc2 (v := 2698) C.1.1 C.1.2.1 C.1.2.2.2.1 (C.1.2.2.2.2 _ (List.mem_of_getElem? (i := 2) rfl)) dX6_item_35 ?_
      refine a_B hS (run_V C hP hS hl.1 53 6 (Nat.lt_of_lt_of_le (by decide) hn) rfl (by decide) rfl [.long 2698] (kX6_isWord l g n (psS w T ct fa d) 2698 w T ct fa d rfl hT hT2 hc) gX6_item_X6_isWord rfl hdX6_isWord rfl ⟨rfl, rfl⟩ ⟨Nat.le_of_ble_eq_true rfl, Nat.le_of_ble_eq_true rfl⟩ rfl [] rfl (Nat.le_of_ble_eq_true rfl) dX6_item_38 ⟨Nat.zero_le _, Nat.zero_le _⟩) (fun b_6 H locs hP hS => ?_) (fun b_6 H locs hP hS => ?_)
      · skip
        refine lv_if_eq (tgt := 51) C.1.1 C.1.2.1 dX6_item_41 (by decide) (fun c_7 => absurd c_7 (by decide)) (fun _ => ?_)
        refine lv_aload_n C.1.1 C.1.2.1 dX6_item_44 rfl (lv_at hl 1 rfl) ?_
        refine a_G hS (run_V C hP hS hl.1 53 6 (Nat.lt_of_lt_of_le (by decide) hn) rfl (by decide) rfl [] (kX6_cryHere l g n (psS w T ct fa d) w T ct fa d rfl hT hT2 hc) gX6_item_X6_cryHere rfl hdX6_cryHere rfl ⟨rfl, rfl⟩ ⟨Nat.le_of_ble_eq_true rfl, Nat.le_of_ble_eq_true rfl⟩ rfl [] rfl (Nat.le_of_ble_eq_true rfl) dX6_item_45 ⟨Nat.zero_le _, Nat.zero_le _⟩) (fun H locs hP hS => ?_)
        obtain ⟨q_8, hq_8⟩ : ∃ zz, zz = cyF (bB w T) T (ct, fa, d) := ⟨_, rfl⟩
        rw [show psQ w T (cyF (bB w T) T (ct, fa, d)) = psS w T q_8.1 q_8.2.1 q_8.2.2 from by rw [hq_8]] at hP
        have cq_8 : q_8.1 ≤ T := by rw [hq_8]; exact cyF_le hc
        refine lv_goto (tgt := 55) C.1.1 C.1.2.1 dX6_item_48 (by decide) ?_
        exact t_G C rfl hP hS (by rw [itF, if_pos c_1, cif_neg b_2, cif_pos b_6, ← hq_8]) dX6_item_55
      · skip
        refine lv_if_eq (tgt := 51) C.1.1 C.1.2.1 dX6_item_41 (by decide) (fun _ => ?_) (fun c_9 => absurd c_9 (by decide))
        refine lv_aload_n C.1.1 C.1.2.1 dX6_item_51 rfl (lv_at hl 1 rfl) ?_
        refine a_G hS (run_V C hP hS hl.1 53 6 (Nat.lt_of_lt_of_le (by decide) hn) rfl (by decide) rfl [] (kX6_wrongHere l g n (psS w T ct fa d) w T ct fa d rfl hT hT2 hc) gX6_item_X6_wrongHere rfl hdX6_wrongHere rfl ⟨rfl, rfl⟩ ⟨Nat.le_of_ble_eq_true rfl, Nat.le_of_ble_eq_true rfl⟩ rfl [] rfl (Nat.le_of_ble_eq_true rfl) dX6_item_52 ⟨Nat.zero_le _, Nat.zero_le _⟩) (fun H locs hP hS => ?_)
        exact t_G C rfl hP hS (by rw [itF, if_pos c_1, cif_neg b_2, cif_neg b_6]) dX6_item_55
  · skip
    refine lv_aload_n C.1.1 C.1.2.1 dX6_item_9 rfl (lv_at hl 1 rfl) ?_
    refine lv_iload_n C.1.1 C.1.2.1 dX6_item_10 rfl (lv_at hl 0 rfl) ?_
    refine a_G hS (run_V C hP hS hl.1 53 6 (Nat.lt_of_lt_of_le (by decide) hn) rfl (by decide) rfl [.int (kindT (bB w T) T ct)] (kX6_residentHere l g n (psS w T ct fa d) (kindT (bB w T) T ct) d N hM w T ct fa rfl hT hT2 hc) gX6_item_X6_residentHere rfl hdX6_residentHere rfl ⟨rfl, rfl⟩ ⟨Nat.le_of_ble_eq_true rfl, Nat.le_of_ble_eq_true rfl⟩ rfl [] rfl (Nat.le_of_ble_eq_true rfl) dX6_item_11 ⟨Nat.zero_le _, Nat.zero_le _⟩) (fun H locs hP hS => ?_)
    obtain ⟨q_10, hq_10⟩ : ∃ zz, zz = reF (bB w T) T (ct, fa, d) (kindT (bB w T) T ct) := ⟨_, rfl⟩
    rw [show psQ w T (reF (bB w T) T (ct, fa, d) (kindT (bB w T) T ct)) = psS w T q_10.1 q_10.2.1 q_10.2.2 from by rw [hq_10]] at hP
    have cq_10 : q_10.1 ≤ T := by rw [hq_10]; exact reF_le hc
    refine lv_goto (tgt := 55) C.1.1 C.1.2.1 dX6_item_14 (by decide) ?_
    exact t_G C rfl hP hS (by rw [itF, if_neg c_1, ← hq_10]) dX6_item_55

abbrev rmX6_items : Room := { frames := 6, cells := 0, slots := 0, locals := 132 }
set_option maxHeartbeats 4000000 in
set_option maxRecDepth 100000 in
theorem kX6_items (l : Launch) (g : GG) (n : Nat) (v : SV) (N : Nat) (w : SV) (T : Nat) (hM : okM (w.1 54) N) (hv : v = w) (hT : w.1 53 7 = nI T) (hT2 : T ≤ 120) : Met l yX6_items wsX6_items rmX6_items (PW g n v [.ref (gA g 53)]) (QF g n (nI (itL (bB w T) T (w.1 54) + 1)) (psQ w T (itQ (bB w T) T (w.1 54)))) 0 0 (wA g n) := by
  refine Met.begin RX6 rfl (by decide) rfl (Nat.le_of_ble_eq_true rfl) ?_
  intro p e s m args below meth c ls ha C hP hS hl
  have hn : 64 ≤ n := C.2.1.1.2.1
  have hi6 : ∀ w ∈ u_ws RX6 TX6 17, w ∈ wsX6_items := by decide +kernel
  have hl : lv_has ls 2 [(0, .ref (gA g 53))] := hl
  rw [hv] at hP
  have hc0 : skp (bB w T) T 0 ≤ T := lk_end (Nat.zero_le _)
  refine lv_aload_n C.1.1 C.1.2.1 dX6_items_0 rfl (lv_at hl 0 rfl) ?_
  refine lv_iconst (v := 0) C.1.1 C.1.2.1 dX6_items_1 rfl ?_
  refine r_put C hP hS 53 6 (Nat.lt_of_lt_of_le (by decide) hn) rfl (by decide) rfl hi6 tyX6 tyX6_ok nmX6 8 (by decide) (List.mem_of_getElem? (i := 1) rfl) rfl rfl rfl rfl rfl (Nat.le_of_ble_eq_true rfl) dX6_items_2 (fun H locs hP hS => ?_)
  refine lv_aload_n C.1.1 C.1.2.1 dX6_items_5 rfl (lv_at hl 0 rfl) ?_
  refine lv_iconst (v := (-1)) C.1.1 C.1.2.1 dX6_items_6 rfl ?_
  refine r_put C hP hS 53 6 (Nat.lt_of_lt_of_le (by decide) hn) rfl (by decide) rfl hi6 tyX6 tyX6_ok nmX6 12 (by decide) (List.mem_of_getElem? (i := 2) rfl) rfl rfl rfl rfl rfl (Nat.le_of_ble_eq_true rfl) dX6_items_7 (fun H locs hP hS => ?_)
  refine lv_aload_n C.1.1 C.1.2.1 dX6_items_10 rfl (lv_at hl 0 rfl) ?_
  refine a_G hS (run_V C hP hS hl.1 53 6 (Nat.lt_of_lt_of_le (by decide) hn) rfl (by decide) rfl [] (kX6_next l g n (up (up w 53 8 0) 53 12 (-1)) 0 T hT hT2 rfl (Nat.zero_le _)) gX6_items_X6_next rfl hdX6_next rfl ⟨rfl, rfl⟩ ⟨Nat.le_of_ble_eq_true rfl, Nat.le_of_ble_eq_true rfl⟩ rfl [] rfl (Nat.le_of_ble_eq_true rfl) dX6_items_11 ⟨Nat.zero_le _, Nat.zero_le _⟩) (fun H locs hP hS => ?_)
  rw [show nextT (up (up w 53 8 0) 53 12 (-1)) T 0 = psS w T (skp (bB w T) T 0) (-1) (w.1 54) from ps_start _ _] at hP
  refine lv_aload_n C.1.1 C.1.2.1 dX6_items_14 rfl (lv_at hl 0 rfl) ?_
  refine a_G hS (run_V C hP hS hl.1 53 6 (Nat.lt_of_lt_of_le (by decide) hn) rfl (by decide) rfl [] (kX6_item l g n (psS w T (skp (bB w T) T 0) (-1) (w.1 54)) N w T (skp (bB w T) T 0) (-1) (w.1 54) hM rfl hT hT2 hc0) gX6_items_X6_item rfl hdX6_item rfl ⟨rfl, rfl⟩ ⟨Nat.le_of_ble_eq_true rfl, Nat.le_of_ble_eq_true rfl⟩ rfl [] rfl (Nat.le_of_ble_eq_true rfl) dX6_items_15 ⟨Nat.zero_le _, Nat.zero_le _⟩) (fun H locs hP hS => ?_)
  obtain ⟨q_3, hq_3⟩ : ∃ zz, zz = itF (bB w T) T ((skp (bB w T) T 0), -1, (w.1 54)) := ⟨_, rfl⟩
  rw [show psQ w T (itF (bB w T) T ((skp (bB w T) T 0), -1, (w.1 54))) = psS w T q_3.1 q_3.2.1 q_3.2.2 from by rw [hq_3]] at hP
  have cq_3 : q_3.1 ≤ T := by rw [hq_3]; exact itF_le hc0
  refine lv_iconst (v := 1) C.1.1 C.1.2.1 dX6_items_18 rfl ?_
  refine lv_istore_n (lv' := [(1, .int 1), (0, .ref (gA g 53))]) C.1.1 C.1.2.1 dX6_items_19 rfl hl (by decide) rfl (fun ls hl => ?_)
  have lp_20 : ∀ (k_20 i : Nat), i ≤ T → T + 1 ≤ i + k_20 → ∀ (H : Heap) (locs : List Loc) (ls : Array Slot), (∀ t, t < i → itC (bB w T) T (itS (bB w T) T (w.1 54) t)) → va_P g.1 vwCl (wl g n (psS w T (itS (bB w T) T (w.1 54) i).1 (itS (bB w T) T (w.1 54) i).2.1 (itS (bB w T) T (w.1 54) i).2.2)) H → va_S (wA g n) s.heap H locs → lv_has ls 2 [(0, .ref (gA g 53)), (1, .int (nI (i + 1)))] → W p l e rmX6_items s m args below meth c H locs 0 0 (MQ below (QF g n (nI (itL (bB w T) T (w.1 54) + 1)) (psQ w T (itQ (bB w T) T (w.1 54)))) args s 0 0 (wA g n)) (F0 m 20 ls []) := by
    clear hP hS hl
    intro k_20
    induction k_20 with
    | zero => exact fun i h1 h2 => absurd h2 (by omega)
    | succ k_20 ih_20 =>
      intro i hi_20 hk_20 H locs ls hit hP hS hl
      obtain ⟨Ni, hMi⟩ := itS_ok (B := bB w T) ⟨N, hM⟩ hT2 i
      refine lv_aload_n C.1.1 C.1.2.1 dX6_items_20 rfl (lv_at hl 0 rfl) ?_
      refine r_get C hP 53 6 (Nat.lt_of_lt_of_le (by decide) hn) rfl (by decide) rfl hi6 12 (by decide) (List.mem_of_getElem? (i := 2) rfl) rfl (val := .int ((psS w T (itS (bB w T) T (w.1 54) i).1 (itS (bB w T) T (w.1 54) i).2.1 (itS (bB w T) T (w.1 54) i).2.2).1 53 12)) rfl dX6_items_21 ?_
      refine lv_topE ((itS (bB w T) T (w.1 54) i).2.1) rfl ?_
      refine lv_if_ge (tgt := 49) C.1.1 C.1.2.1 dX6_items_24 (by decide) (fun c_4 => ?_) (fun c_4 => ?_)
      · skip
        have hL : itL (bB w T) T (w.1 54) = i := itL_eq hit (fun h => fa_lt_nle h.1 c_4)
        refine lv_aload_n C.1.1 C.1.2.1 dX6_items_49 rfl (lv_at hl 0 rfl) ?_
        refine r_get C hP 53 6 (Nat.lt_of_lt_of_le (by decide) hn) rfl (by decide) rfl hi6 12 (by decide) (List.mem_of_getElem? (i := 2) rfl) rfl (val := .int ((psS w T (itS (bB w T) T (w.1 54) i).1 (itS (bB w T) T (w.1 54) i).2.1 (itS (bB w T) T (w.1 54) i).2.2).1 53 12)) rfl dX6_items_50 ?_
        refine lv_topE ((itS (bB w T) T (w.1 54) i).2.1) rfl ?_
        refine lv_if_ge (tgt := 67) C.1.1 C.1.2.1 dX6_items_53 (by decide) (fun _ => ?_) (fun c_5 => absurd c_4 c_5)
        refine lv_iload_n C.1.1 C.1.2.1 dX6_items_67 rfl (lv_at hl 1 rfl) ?_
        exact t_F C rfl hP hS (by rw [hL]) (by rw [itQ, hL, itE, if_pos c_4]) dX6_items_68
      · skip
        refine lv_aload_n C.1.1 C.1.2.1 dX6_items_27 rfl (lv_at hl 0 rfl) ?_
        refine r_get C hP 53 6 (Nat.lt_of_lt_of_le (by decide) hn) rfl (by decide) rfl hi6 9 (by decide) (List.mem_of_getElem? (i := 3) rfl) rfl (val := .int ((psS w T (itS (bB w T) T (w.1 54) i).1 (itS (bB w T) T (w.1 54) i).2.1 (itS (bB w T) T (w.1 54) i).2.2).1 53 9)) rfl dX6_items_28 ?_
        refine lv_topE (tkK (bB w T) T (itS (bB w T) T (w.1 54) i).1) rfl ?_
        refine lv_iconst (v := 3) C.1.1 C.1.2.1 dX6_items_31 rfl ?_
        refine lv_icmp_ne (tgt := 49) C.1.1 C.1.2.1 dX6_items_32 (by decide) (fun c_6 => ?_) (fun c_6 => ?_)
        · skip
          have hL : itL (bB w T) T (w.1 54) = i := itL_eq hit (fun h => c_6 h.2)
          refine lv_aload_n C.1.1 C.1.2.1 dX6_items_49 rfl (lv_at hl 0 rfl) ?_
          refine r_get C hP 53 6 (Nat.lt_of_lt_of_le (by decide) hn) rfl (by decide) rfl hi6 12 (by decide) (List.mem_of_getElem? (i := 2) rfl) rfl (val := .int ((psS w T (itS (bB w T) T (w.1 54) i).1 (itS (bB w T) T (w.1 54) i).2.1 (itS (bB w T) T (w.1 54) i).2.2).1 53 12)) rfl dX6_items_50 ?_
          refine lv_topE ((itS (bB w T) T (w.1 54) i).2.1) rfl ?_
          refine lv_if_ge (tgt := 67) C.1.1 C.1.2.1 dX6_items_53 (by decide) (fun c_7 => absurd c_7 c_4) (fun _ => ?_)
          refine lv_aload_n C.1.1 C.1.2.1 dX6_items_56 rfl (lv_at hl 0 rfl) ?_
          refine r_get C hP 53 6 (Nat.lt_of_lt_of_le (by decide) hn) rfl (by decide) rfl hi6 9 (by decide) (List.mem_of_getElem? (i := 3) rfl) rfl (val := .int ((psS w T (itS (bB w T) T (w.1 54) i).1 (itS (bB w T) T (w.1 54) i).2.1 (itS (bB w T) T (w.1 54) i).2.2).1 53 9)) rfl dX6_items_57 ?_
          refine lv_topE (tkK (bB w T) T (itS (bB w T) T (w.1 54) i).1) rfl ?_
          refine lv_if_eq (tgt := 67) C.1.1 C.1.2.1 dX6_items_60 (by decide) (fun c_8 => ?_) (fun c_8 => ?_)
          · skip
            refine lv_iload_n C.1.1 C.1.2.1 dX6_items_67 rfl (lv_at hl 1 rfl) ?_
            exact t_F C rfl hP hS (by rw [hL]) (by rw [itQ, hL, itE, if_neg c_4, if_pos c_8]) dX6_items_68
          · skip
            refine lv_aload_n C.1.1 C.1.2.1 dX6_items_63 rfl (lv_at hl 0 rfl) ?_
            refine a_G hS (run_V C hP hS hl.1 53 6 (Nat.lt_of_lt_of_le (by decide) hn) rfl (by decide) rfl [] (kX6_wrongHere l g n (psS w T (itS (bB w T) T (w.1 54) i).1 (itS (bB w T) T (w.1 54) i).2.1 (itS (bB w T) T (w.1 54) i).2.2) w T (itS (bB w T) T (w.1 54) i).1 (itS (bB w T) T (w.1 54) i).2.1 (itS (bB w T) T (w.1 54) i).2.2 rfl hT hT2 (itS_le i)) gX6_items_X6_wrongHere rfl hdX6_wrongHere rfl ⟨rfl, rfl⟩ ⟨Nat.le_of_ble_eq_true rfl, Nat.le_of_ble_eq_true rfl⟩ rfl [] rfl (Nat.le_of_ble_eq_true rfl) dX6_items_64 ⟨Nat.zero_le _, Nat.zero_le _⟩) (fun H locs hP hS => ?_)
            refine lv_iload_n C.1.1 C.1.2.1 dX6_items_67 rfl (lv_at hl 1 rfl) ?_
            exact t_F C rfl hP hS (by rw [hL]) (by rw [itQ, hL, itE, if_neg c_4, if_neg c_8]) dX6_items_68
        · skip
          refine lv_aload_n C.1.1 C.1.2.1 dX6_items_35 rfl (lv_at hl 0 rfl) ?_
          refine a_G hS (run_V C hP hS hl.1 53 6 (Nat.lt_of_lt_of_le (by decide) hn) rfl (by decide) rfl [] (kX6_next l g n (psS w T (itS (bB w T) T (w.1 54) i).1 (itS (bB w T) T (w.1 54) i).2.1 (itS (bB w T) T (w.1 54) i).2.2) (tkE (bB w T) T (itS (bB w T) T (w.1 54) i).1) T hT hT2 rfl (tkE_le (itS_le i))) gX6_items_X6_next rfl hdX6_next rfl ⟨rfl, rfl⟩ ⟨Nat.le_of_ble_eq_true rfl, Nat.le_of_ble_eq_true rfl⟩ rfl [] rfl (Nat.le_of_ble_eq_true rfl) dX6_items_36 ⟨Nat.zero_le _, Nat.zero_le _⟩) (fun H locs hP hS => ?_)
          rw [show nextT (psS w T (itS (bB w T) T (w.1 54) i).1 (itS (bB w T) T (w.1 54) i).2.1 (itS (bB w T) T (w.1 54) i).2.2) T (tkE (bB w T) T (itS (bB w T) T (w.1 54) i).1) = psS w T (nx (bB w T) T (itS (bB w T) T (w.1 54) i).1) (itS (bB w T) T (w.1 54) i).2.1 (itS (bB w T) T (w.1 54) i).2.2 from ps_next _ _ _ _ _] at hP
          refine lv_aload_n C.1.1 C.1.2.1 dX6_items_39 rfl (lv_at hl 0 rfl) ?_
          refine a_G hS (run_V C hP hS hl.1 53 6 (Nat.lt_of_lt_of_le (by decide) hn) rfl (by decide) rfl [] (kX6_item l g n (psS w T (nx (bB w T) T (itS (bB w T) T (w.1 54) i).1) (itS (bB w T) T (w.1 54) i).2.1 (itS (bB w T) T (w.1 54) i).2.2) Ni w T (nx (bB w T) T (itS (bB w T) T (w.1 54) i).1) (itS (bB w T) T (w.1 54) i).2.1 (itS (bB w T) T (w.1 54) i).2.2 hMi rfl hT hT2 (nx_le' (itS_le i))) gX6_items_X6_item rfl hdX6_item rfl ⟨rfl, rfl⟩ ⟨Nat.le_of_ble_eq_true rfl, Nat.le_of_ble_eq_true rfl⟩ rfl [] rfl (Nat.le_of_ble_eq_true rfl) dX6_items_40 ⟨Nat.zero_le _, Nat.zero_le _⟩) (fun H locs hP hS => ?_)
          obtain ⟨q_9, hq_9⟩ : ∃ zz, zz = itF (bB w T) T ((nx (bB w T) T (itS (bB w T) T (w.1 54) i).1), (itS (bB w T) T (w.1 54) i).2.1, (itS (bB w T) T (w.1 54) i).2.2) := ⟨_, rfl⟩
          rw [show psQ w T (itF (bB w T) T ((nx (bB w T) T (itS (bB w T) T (w.1 54) i).1), (itS (bB w T) T (w.1 54) i).2.1, (itS (bB w T) T (w.1 54) i).2.2)) = psS w T q_9.1 q_9.2.1 q_9.2.2 from by rw [hq_9]] at hP
          have cq_9 : q_9.1 ≤ T := by rw [hq_9]; exact itF_le (nx_le' (itS_le i))
          refine lv_iinc (v := nI (i + 1 + 1)) (lv' := [(1, .int (nI (i + 1 + 1))), (0, .ref (gA g 53))]) C.1.1 C.1.2.1 dX6_items_43 hl (k := 1) rfl (nI_1 (i + 1)) (by decide) rfl (fun ls hl => ?_)
          refine lv_goto (tgt := 20) C.1.1 C.1.2.1 dX6_items_46 (by decide) ?_
          exact ih_20 (i + 1) (by have h8 := itS_ge i hit; have h9 := itS_le (B := bB w T) (T := T) (d := w.1 54) i; have h7 := nx_gt c_6; have h6 := nx_le' (B := bB w T) h9; omega) (by omega) _ _ _ (fun t ht => if h9 : t < i then hit t h9 else by rw [show t = i by omega]; exact ⟨fa_nle c_4, c_6⟩) (by rw [hq_9] at hP; exact hP) hS (lv_sub hl [1, 0] rfl)
  exact lp_20 (T + 1) 0 (Nat.zero_le _) (by omega) _ _ _ (fun t ht => absurd ht (Nat.not_lt_zero t)) (by rw [hq_3] at hP; exact hP) hS (lv_sub hl [1, 0] rfl)

abbrev rmX6_text : Room := { frames := 7, cells := 0, slots := 0, locals := 153 }
set_option maxHeartbeats 4000000 in
set_option maxRecDepth 100000 in
theorem kX6_text (l : Launch) (g : GG) (n : Nat) (v : SV) (T N : Nat) (hM : okM (v.1 54) N) (hT : v.1 53 7 = nI T) (hT2 : T ≤ 120) : Met l yX6_text wsX6_text rmX6_text (PW g n v [.ref (gA g 53)]) (QF g n ((textM v).1) ((textM v).2)) 0 0 (wA g n) := by
  refine Met.begin RX6 rfl (by decide) rfl (Nat.le_of_ble_eq_true rfl) ?_
  intro p e s m args below meth c ls ha C hP hS hl
  have hn : 64 ≤ n := C.2.1.1.2.1
  have hi6 : ∀ w ∈ u_ws RX6 TX6 17, w ∈ wsX6_text := by decide +kernel
  have hl : lv_has ls 2 [(0, .ref (gA g 53))] := hl
  refine lv_aload_n C.1.1 C.1.2.1 dX6_text_0 rfl (lv_at hl 0 rfl) ?_
  refine r_get C hP 53 6 (Nat.lt_of_lt_of_le (by decide) hn) rfl (by decide) rfl hi6 0 (by decide) (List.mem_of_getElem? (i := 1) rfl) rfl (val := .ref (gA g 54)) rfl dX6_text_1 ?_
  refine lv_aload_n C.1.1 C.1.2.1 dX6_text_4 rfl (lv_at hl 0 rfl) ?_
  refine r_get C hP 53 6 (Nat.lt_of_lt_of_le (by decide) hn) rfl (by decide) rfl hi6 1 (by decide) (List.mem_of_getElem? (i := 2) rfl) rfl (val := .ref (gA g 55)) rfl dX6_text_5 ?_
  refine a_G hS (run_S C hP hS hl.1 [.ref (gA g 54), .ref (gA g 55)] (kX6_copies l g n v 54 55 (by decide) (by decide) (by decide)) gX6_text_X6_copies hdX6_copies rfl ⟨rfl, rfl⟩ ⟨Nat.le_of_ble_eq_true rfl, Nat.le_of_ble_eq_true rfl⟩ rfl [] rfl (Nat.le_of_ble_eq_true rfl) dX6_text_8 ⟨Nat.zero_le _, Nat.zero_le _⟩) (fun H locs hP hS => ?_)
  rw [show upw v 55 (cpyM (v.1 54) (v.1 55) 83) = textV v from rfl] at hP
  refine lv_aload_n C.1.1 C.1.2.1 dX6_text_11 rfl (lv_at hl 0 rfl) ?_
  refine a_F hS (run_V C hP hS hl.1 53 6 (Nat.lt_of_lt_of_le (by decide) hn) rfl (by decide) rfl [] (kX6_items l g n (textV v) N (textV v) T hM rfl hT hT2) gX6_text_X6_items rfl hdX6_items rfl ⟨rfl, rfl⟩ ⟨Nat.le_of_ble_eq_true rfl, Nat.le_of_ble_eq_true rfl⟩ rfl [] rfl (Nat.le_of_ble_eq_true rfl) dX6_text_12 ⟨Nat.zero_le _, Nat.zero_le _⟩) (fun H locs hP hS => ?_)
  obtain ⟨q, hq⟩ : ∃ zz, zz = textQ v T := ⟨_, rfl⟩
  rw [show itQ (bB (textV v) T) T ((textV v).1 54) = q from hq.symm] at hP
  refine lv_istore_n (lv' := [(1, .int (nI (textL v T + 1))), (0, .ref (gA g 53))]) C.1.1 C.1.2.1 dX6_text_15 rfl hl (by decide) rfl (fun ls hl => ?_)
  refine lv_aload_n C.1.1 C.1.2.1 dX6_text_16 rfl (lv_at hl 1 rfl) ?_
  refine lv_iconst (v := 0) C.1.1 C.1.2.1 dX6_text_17 rfl ?_
  refine r_put C hP hS 53 6 (Nat.lt_of_lt_of_le (by decide) hn) rfl (by decide) rfl hi6 tyX6 tyX6_ok nmX6 7 (by decide) (List.mem_of_getElem? (i := 3) rfl) rfl rfl rfl rfl rfl (Nat.le_of_ble_eq_true rfl) dX6_text_18 (fun H locs hP hS => ?_)
  rw [show up (psQ (textV v) T q) 53 7 0 = textE v T q from rfl] at hP
  refine lv_aload_n C.1.1 C.1.2.1 dX6_text_21 rfl (lv_at hl 1 rfl) ?_
  refine r_get C hP 53 6 (Nat.lt_of_lt_of_le (by decide) hn) rfl (by decide) rfl hi6 12 (by decide) (List.mem_of_getElem? (i := 4) rfl) rfl (val := .int ((textE v T q).1 53 12)) rfl dX6_text_22 ?_
  refine lv_topE q.2.1 rfl ?_
  refine lv_if_lt (tgt := 46) C.1.1 C.1.2.1 dX6_text_25 (by decide) (fun c_2 => ?_) (fun c_2 => ?_)
  · skip
    refine lv_iload_n C.1.1 C.1.2.1 dX6_text_46 rfl (lv_at hl 0 rfl) ?_
    exact t_F C rfl hP hS (by rw [textM, hT, tn_nI (show T < 2 ^ 31 by omega), ← hq, if_pos c_2]) (by rw [textM, hT, tn_nI (show T < 2 ^ 31 by omega), ← hq, if_pos c_2]) dX6_text_47
  · skip
    refine lv_aload_n C.1.1 C.1.2.1 dX6_text_28 rfl (lv_at hl 1 rfl) ?_
    refine r_get C hP 53 6 (Nat.lt_of_lt_of_le (by decide) hn) rfl (by decide) rfl hi6 1 (by decide) (List.mem_of_getElem? (i := 2) rfl) rfl (val := .ref (gA g 55)) rfl dX6_text_29 ?_
    refine lv_aload_n C.1.1 C.1.2.1 dX6_text_32 rfl (lv_at hl 1 rfl) ?_
    refine r_get C hP 53 6 (Nat.lt_of_lt_of_le (by decide) hn) rfl (by decide) rfl hi6 0 (by decide) (List.mem_of_getElem? (i := 1) rfl) rfl (val := .ref (gA g 54)) rfl dX6_text_33 ?_
    refine a_G hS (run_S C hP hS hl.1 [.ref (gA g 55), .ref (gA g 54)] (kX6_copies l g n (textE v T q) 55 54 (by decide) (by decide) (by decide)) gX6_text_X6_copies hdX6_copies rfl ⟨rfl, rfl⟩ ⟨Nat.le_of_ble_eq_true rfl, Nat.le_of_ble_eq_true rfl⟩ rfl [] rfl (Nat.le_of_ble_eq_true rfl) dX6_text_36 ⟨Nat.zero_le _, Nat.zero_le _⟩) (fun H locs hP hS => ?_)
    refine lv_iconst (v := (-1)) C.1.1 C.1.2.1 dX6_text_39 rfl ?_
    refine lv_aload_n C.1.1 C.1.2.1 dX6_text_40 rfl (lv_at hl 1 rfl) ?_
    refine r_get C hP 53 6 (Nat.lt_of_lt_of_le (by decide) hn) rfl (by decide) rfl hi6 12 (by decide) (List.mem_of_getElem? (i := 4) rfl) rfl (val := .int ((upw (textE v T q) 54 (cpyM ((textE v T q).1 55) ((textE v T q).1 54) 83)).1 53 12)) rfl dX6_text_41 ?_
    refine lv_isub C.1.1 C.1.2.1 dX6_text_44 ?_
    exact t_F C rfl hP hS (by rw [textM, hT, tn_nI (show T < 2 ^ 31 by omega), ← hq, if_neg c_2]; rfl) (by rw [textM, hT, tn_nI (show T < 2 ^ 31 by omega), ← hq, if_neg c_2]) dX6_text_45

