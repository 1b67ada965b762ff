abbrev rmX6_isTold : Room := { frames := 4, cells := 0, slots := 0, locals := 90 }
set_option maxHeartbeats 4000000 in
set_option maxRecDepth 100000 in
theorem kX6_isTold (l : Launch) (g : GG) (n : Nat) (v : SV) (sx r : Nat) (hs : sx < 4) (hr : r < 8) (N : Nat) (hM : okM (v.1 54) N) (hSz : ∀ i, i < 4 → ∃ z, z ≤ 40 ∧ v.1 61 i = nI z) : Met l yX6_isTold wsX6_isTold rmX6_isTold (PW g n v [.ref (gA g 53), .int (nI sx), .int (nI r)]) (QB g n (toldP (v.1 54) (v.1 62) (v.1 61 sx).toNatClampNeg sx r) (upw v 54 (cpyM (v.1 56) (v.1 54) 83))) 0 0 (wA g n) := by
  refine Met.begin RX6 rfl (by decide) rfl (Nat.le_of_ble_eq_true rfl) ?_
  intro p e s m args below meth c ls ha C hP hS hl
  have hn : 64 ≤ n := C.2.1.1.2.1
  have hi6 : ∀ w ∈ u_ws RX6 TX6 17, w ∈ wsX6_isTold := by decide +kernel
  have hl : lv_has ls 6 [(0, .ref (gA g 53)), (1, .int (nI sx)), (2, .int (nI r))] := hl
  have h8 := hM.1
  obtain ⟨Z, hZ, eZ⟩ := hSz sx hs
  refine lv_iconst (v := 1) C.1.1 C.1.2.1 dX6_isTold_0 rfl ?_
  refine lv_istore_n (lv' := [(3, .int 1), (0, .ref (gA g 53)), (1, .int (nI sx)), (2, .int (nI r))]) C.1.1 C.1.2.1 dX6_isTold_1 rfl hl (by decide) rfl (fun ls hl => ?_)
  refine lv_iconst (v := 0) C.1.1 C.1.2.1 dX6_isTold_2 rfl ?_
  refine lv_istore (lv' := [(4, .int 0), (3, .int 1), (0, .ref (gA g 53)), (1, .int (nI sx)), (2, .int (nI r))]) C.1.1 C.1.2.1 dX6_isTold_3 hl (by decide) rfl (fun ls hl => ?_)
  have lp_5 : ∀ (k_5 i : Nat), i ≤ Z → Z + 1 ≤ i + k_5 → ∀ (H : Heap) (locs : List Loc) (ls : Array Slot), (∀ t, t < i → okT (v.1 54) (v.1 62) sx r t) → va_P g.1 vwCl (wl g n (upw v 54 (daysM (v.1 54) i))) H → va_S (wA g n) s.heap H locs → lv_has ls 6 [(0, .ref (gA g 53)), (1, .int (nI sx)), (2, .int (nI r)), (3, .int 1), (4, .int (nI i))] → W p l e rmX6_isTold s m args below meth c H locs 0 0 (MQ below (QB g n (toldP (v.1 54) (v.1 62) (v.1 61 sx).toNatClampNeg sx r) (upw v 54 (cpyM (v.1 56) (v.1 54) 83))) args s 0 0 (wA g n)) (F0 m 5 ls []) := by
    clear hP hS hl
    intro k_5
    induction k_5 with
    | zero => exact fun i h1 h2 => absurd h2 (by omega)
    | succ k_5 ih_5 =>
      intro i hi_5 hk_5 H locs ls hok hP hS hl
      refine lv_iload C.1.1 C.1.2.1 dX6_isTold_5 (lv_at hl 4 rfl) ?_
      refine lv_aload_n C.1.1 C.1.2.1 dX6_isTold_7 rfl (lv_at hl 0 rfl) ?_
      refine r_get C hP 53 6 (Nat.lt_of_lt_of_le (by decide) hn) rfl (by decide) rfl hi6 14 (by decide) (List.mem_of_getElem? (i := 1) rfl) rfl (val := .ref (gA g 61)) rfl dX6_isTold_8 ?_
      refine lv_iload_n C.1.1 C.1.2.1 dX6_isTold_11 rfl (lv_at hl 1 rfl) ?_
      refine r_iald C hP 61 (Nat.lt_of_lt_of_le (by decide) hn) rfl sx rfl (N := 4) rfl (by decide) (by omega) dX6_isTold_12 ?_
      refine lv_topE (nI Z) (by rw [upw_ne _ _ (by decide)]; exact eZ) ?_
      refine lv_icmp_ge (tgt := 67) C.1.1 C.1.2.1 dX6_isTold_13 (by decide) (fun c_1 => ?_) (fun c_1 => ?_)
      · rw [show (nI Z ≤ nI i) = (Z ≤ i) from propext (nI_leI (a := Z) (b := i) (by omega) (by omega))] at c_1
        refine lv_aload_n C.1.1 C.1.2.1 dX6_isTold_67 rfl (lv_at hl 0 rfl) ?_
        refine r_get C hP 53 6 (Nat.lt_of_lt_of_le (by decide) hn) rfl (by decide) rfl hi6 2 (by decide) (List.mem_of_getElem? (i := 3) rfl) rfl (val := .ref (gA g 56)) rfl dX6_isTold_68 ?_
        refine lv_aload_n C.1.1 C.1.2.1 dX6_isTold_71 rfl (lv_at hl 0 rfl) ?_
        refine r_get C hP 53 6 (Nat.lt_of_lt_of_le (by decide) hn) rfl (by decide) rfl hi6 0 (by decide) (List.mem_of_getElem? (i := 4) rfl) rfl (val := .ref (gA g 54)) rfl dX6_isTold_72 ?_
        refine a_G hS (run_S C hP hS hl.1 [.ref (gA g 56), .ref (gA g 54)] (kX6_copies l g n (upw v 54 (daysM (v.1 54) i)) 56 54 (by decide) (by decide) (by decide)) gX6_isTold_X6_copies hdX6_copies rfl ⟨rfl, rfl⟩ ⟨Nat.le_of_ble_eq_true rfl, Nat.le_of_ble_eq_true rfl⟩ rfl [] rfl (Nat.le_of_ble_eq_true rfl) dX6_isTold_75 ⟨Nat.zero_le _, Nat.zero_le _⟩) (fun H locs hP hS => ?_)
        obtain ⟨v_2, hv_2⟩ : ∃ zz, zz = upw (upw v 54 (daysM (v.1 54) i)) 54 (cpyM ((upw v 54 (daysM (v.1 54) i)).1 56) ((upw v 54 (daysM (v.1 54) i)).1 54) 83) := ⟨_, rfl⟩
        rw [← hv_2] at hP
        rw [show v_2 = upw v 54 (cpyM (v.1 56) (v.1 54) 83) from by rw [hv_2]; exact told_end (fun j hj => daysM_hi hM hj _)] at hP
        refine lv_iload_n C.1.1 C.1.2.1 dX6_isTold_78 rfl (lv_at hl 3 rfl) ?_
        exact t_1 C rfl hP hS (by rw [eZ, tn_nI (show Z < 2 ^ 31 by omega)]; exact fun t ht => hok t (by omega)) rfl dX6_isTold_79
      · rw [show (nI Z ≤ nI i) = (Z ≤ i) from propext (nI_leI (a := Z) (b := i) (by omega) (by omega))] at c_1
        refine lv_iload_n C.1.1 C.1.2.1 dX6_isTold_16 rfl (lv_at hl 3 rfl) ?_
        refine lv_if_eq (tgt := 67) C.1.1 C.1.2.1 dX6_isTold_17 (by decide) (fun c_3 => absurd c_3 (by decide)) (fun _ => ?_)
        refine lv_aload_n C.1.1 C.1.2.1 dX6_isTold_20 rfl (lv_at hl 0 rfl) ?_
        refine r_get C hP 53 6 (Nat.lt_of_lt_of_le (by decide) hn) rfl (by decide) rfl hi6 15 (by decide) (List.mem_of_getElem? (i := 2) rfl) rfl (val := .ref (gA g 62)) rfl dX6_isTold_21 ?_
        refine lv_bipush (v := 40) C.1.1 C.1.2.1 dX6_isTold_24 rfl ?_
        refine lv_iload_n C.1.1 C.1.2.1 dX6_isTold_26 rfl (lv_at hl 1 rfl) ?_
        refine lv_imul C.1.1 C.1.2.1 dX6_isTold_27 ?_
        refine lv_topE (nI (40 * sx)) (pk_mul 40 sx) ?_
        refine lv_iload C.1.1 C.1.2.1 dX6_isTold_28 (lv_at hl 4 rfl) ?_
        refine lv_iadd C.1.1 C.1.2.1 dX6_isTold_30 ?_
        refine lv_topE (nI ((40 * sx) + i)) (nI_add (40 * sx) i) ?_
        refine r_iald C hP 62 (Nat.lt_of_lt_of_le (by decide) hn) rfl ((40 * sx) + i) rfl (N := 160) rfl (by decide) (by omega) dX6_isTold_31 ?_
        refine lv_topE (v.1 62 (40 * sx + i)) (by rw [upw_ne _ _ (by decide)]) ?_
        refine lv_istore (lv' := [(5, .int (v.1 62 (40 * sx + i))), (0, .ref (gA g 53)), (1, .int (nI sx)), (2, .int (nI r)), (3, .int 1), (4, .int (nI i))]) C.1.1 C.1.2.1 dX6_isTold_32 hl (by decide) rfl (fun ls hl => ?_)
        refine lv_iload C.1.1 C.1.2.1 dX6_isTold_34 (lv_at hl 0 rfl) ?_
        refine lv_iconst (v := (-1)) C.1.1 C.1.2.1 dX6_isTold_36 rfl ?_
        refine lv_icmp_eq (tgt := 51) C.1.1 C.1.2.1 dX6_isTold_37 (by decide) (fun c_4 => ?_) (fun c_4 => ?_)
        · skip
          refine lv_iconst (v := 1) C.1.1 C.1.2.1 dX6_isTold_51 rfl ?_
          refine lv_goto (tgt := 56) C.1.1 C.1.2.1 dX6_isTold_52 (by decide) ?_
          refine lv_istore_n (lv' := [(3, .int 1), (5, .int (v.1 62 (40 * sx + i))), (0, .ref (gA g 53)), (1, .int (nI sx)), (2, .int (nI r)), (4, .int (nI i))]) C.1.1 C.1.2.1 dX6_isTold_56 rfl hl (by decide) rfl (fun ls hl => ?_)
          refine lv_aload_n C.1.1 C.1.2.1 dX6_isTold_57 rfl (lv_at hl 2 rfl) ?_
          refine a_G hS (run_V C hP hS hl.1 53 6 (Nat.lt_of_lt_of_le (by decide) hn) rfl (by decide) rfl [] (kX6_dayGoes l g n (upw v 54 (daysM (v.1 54) i)) N (by rw [upw_same]; exact okM_days hM i)) gX6_isTold_X6_dayGoes rfl hdX6_dayGoes rfl ⟨rfl, rfl⟩ ⟨Nat.le_of_ble_eq_true rfl, Nat.le_of_ble_eq_true rfl⟩ rfl [] rfl (Nat.le_of_ble_eq_true rfl) dX6_isTold_58 ⟨Nat.zero_le _, Nat.zero_le _⟩) (fun H locs hP hS => ?_)
          obtain ⟨v_5, hv_5⟩ : ∃ zz, zz = upw (upw v 54 (daysM (v.1 54) i)) 54 (dayM ((upw v 54 (daysM (v.1 54) i)).1 54)) := ⟨_, rfl⟩
          rw [← hv_5] at hP
          rw [show v_5 = upw v 54 (daysM (v.1 54) (i + 1)) from by rw [hv_5, upw_same, upw_upw]; rfl] at hP
          refine lv_iinc (v := nI (i + 1)) (lv' := [(4, .int (nI (i + 1))), (3, .int 1), (5, .int (v.1 62 (40 * sx + i))), (0, .ref (gA g 53)), (1, .int (nI sx)), (2, .int (nI r))]) C.1.1 C.1.2.1 dX6_isTold_61 hl (k := 5) rfl (nI_1 i) (by decide) rfl (fun ls hl => ?_)
          refine lv_goto (tgt := 5) C.1.1 C.1.2.1 dX6_isTold_64 (by decide) ?_
          exact ih_5 (i + 1) (by omega) (by omega) _ _ _ (fun t ht => if h9 : t < i then hok t h9 else by rw [show t = i by omega]; first | exact Or.inl c_4 | exact Or.inr c_4) hP hS (lv_sub hl [3, 4, 5, 1, 0] rfl)
        · skip
          refine lv_iload C.1.1 C.1.2.1 dX6_isTold_40 (lv_at hl 0 rfl) ?_
          refine lv_aload_n C.1.1 C.1.2.1 dX6_isTold_42 rfl (lv_at hl 1 rfl) ?_
          refine lv_iload_n C.1.1 C.1.2.1 dX6_isTold_43 rfl (lv_at hl 3 rfl) ?_
          refine lv_iconst (v := 4) C.1.1 C.1.2.1 dX6_isTold_44 rfl ?_
          refine a_F hS (run_V C hP hS hl.1 53 6 (Nat.lt_of_lt_of_le (by decide) hn) rfl (by decide) rfl [.int (nI r), .int 4] (kX6_its l g n (upw v 54 (daysM (v.1 54) i)) r 4 (by omega) (by omega)) gX6_isTold_X6_its rfl hdX6_its rfl ⟨rfl, rfl⟩ ⟨Nat.le_of_ble_eq_true rfl, Nat.le_of_ble_eq_true rfl⟩ rfl [.int (v.1 62 (40 * sx + i))] rfl (Nat.le_of_ble_eq_true rfl) dX6_isTold_45 ⟨Nat.zero_le _, Nat.zero_le _⟩) (fun H locs hP hS => ?_)
          refine lv_topE (rowM (daysM (v.1 54) i) r 4) (by rw [upw_same]) ?_
          refine lv_icmp_ne (tgt := 55) C.1.1 C.1.2.1 dX6_isTold_48 (by decide) (fun c_6 => ?_) (fun c_6 => ?_)
          · skip
            refine lv_iconst (v := 0) C.1.1 C.1.2.1 dX6_isTold_55 rfl ?_
            refine lv_istore_n (lv' := [(3, .int 0), (5, .int (v.1 62 (40 * sx + i))), (0, .ref (gA g 53)), (1, .int (nI sx)), (2, .int (nI r)), (4, .int (nI i))]) C.1.1 C.1.2.1 dX6_isTold_56 rfl hl (by decide) rfl (fun ls hl => ?_)
            refine lv_aload_n C.1.1 C.1.2.1 dX6_isTold_57 rfl (lv_at hl 2 rfl) ?_
            refine a_G hS (run_V C hP hS hl.1 53 6 (Nat.lt_of_lt_of_le (by decide) hn) rfl (by decide) rfl [] (kX6_dayGoes l g n (upw v 54 (daysM (v.1 54) i)) N (by rw [upw_same]; exact okM_days hM i)) gX6_isTold_X6_dayGoes rfl hdX6_dayGoes rfl ⟨rfl, rfl⟩ ⟨Nat.le_of_ble_eq_true rfl, Nat.le_of_ble_eq_true rfl⟩ rfl [] rfl (Nat.le_of_ble_eq_true rfl) dX6_isTold_58 ⟨Nat.zero_le _, Nat.zero_le _⟩) (fun H locs hP hS => ?_)
            obtain ⟨v_7, hv_7⟩ : ∃ zz, zz = upw (upw v 54 (daysM (v.1 54) i)) 54 (dayM ((upw v 54 (daysM (v.1 54) i)).1 54)) := ⟨_, rfl⟩
            rw [← hv_7] at hP
            rw [show v_7 = upw v 54 (daysM (v.1 54) (i + 1)) from by rw [hv_7, upw_same, upw_upw]; rfl] at hP
            refine lv_iinc (v := nI (i + 1)) (lv' := [(4, .int (nI (i + 1))), (3, .int 0), (5, .int (v.1 62 (40 * sx + i))), (0, .ref (gA g 53)), (1, .int (nI sx)), (2, .int (nI r))]) C.1.1 C.1.2.1 dX6_isTold_61 hl (k := 5) rfl (nI_1 i) (by decide) rfl (fun ls hl => ?_)
            refine lv_goto (tgt := 5) C.1.1 C.1.2.1 dX6_isTold_64 (by decide) ?_
            refine lv_iload C.1.1 C.1.2.1 dX6_isTold_5 (lv_at hl 0 rfl) ?_
            refine lv_aload_n C.1.1 C.1.2.1 dX6_isTold_7 rfl (lv_at hl 3 rfl) ?_
            refine r_get C hP 53 6 (Nat.lt_of_lt_of_le (by decide) hn) rfl (by decide) rfl hi6 14 (by decide) (List.mem_of_getElem? (i := 1) rfl) rfl (val := .ref (gA g 61)) rfl dX6_isTold_8 ?_
            refine lv_iload_n C.1.1 C.1.2.1 dX6_isTold_11 rfl (lv_at hl 4 rfl) ?_
            refine r_iald C hP 61 (Nat.lt_of_lt_of_le (by decide) hn) rfl sx rfl (N := 4) rfl (by decide) (by omega) dX6_isTold_12 ?_
            refine lv_topE (nI Z) (by rw [upw_ne _ _ (by decide)]; exact eZ) ?_
            refine lv_icmp_ge (tgt := 67) C.1.1 C.1.2.1 dX6_isTold_13 (by decide) (fun c_8 => ?_) (fun c_8 => ?_)
            · rw [show (nI Z ≤ nI (i + 1)) = (Z ≤ i + 1) from propext (nI_leI (a := Z) (b := i + 1) (by omega) (by omega))] at c_8
              refine lv_aload_n C.1.1 C.1.2.1 dX6_isTold_67 rfl (lv_at hl 3 rfl) ?_
              refine r_get C hP 53 6 (Nat.lt_of_lt_of_le (by decide) hn) rfl (by decide) rfl hi6 2 (by decide) (List.mem_of_getElem? (i := 3) rfl) rfl (val := .ref (gA g 56)) rfl dX6_isTold_68 ?_
              refine lv_aload_n C.1.1 C.1.2.1 dX6_isTold_71 rfl (lv_at hl 3 rfl) ?_
              refine r_get C hP 53 6 (Nat.lt_of_lt_of_le (by decide) hn) rfl (by decide) rfl hi6 0 (by decide) (List.mem_of_getElem? (i := 4) rfl) rfl (val := .ref (gA g 54)) rfl dX6_isTold_72 ?_
              refine a_G hS (run_S C hP hS hl.1 [.ref (gA g 56), .ref (gA g 54)] (kX6_copies l g n (upw v 54 (daysM (v.1 54) (i + 1))) 56 54 (by decide) (by decide) (by decide)) gX6_isTold_X6_copies hdX6_copies rfl ⟨rfl, rfl⟩ ⟨Nat.le_of_ble_eq_true rfl, Nat.le_of_ble_eq_true rfl⟩ rfl [] rfl (Nat.le_of_ble_eq_true rfl) dX6_isTold_75 ⟨Nat.zero_le _, Nat.zero_le _⟩) (fun H locs hP hS => ?_)
              obtain ⟨v_9, hv_9⟩ : ∃ zz, zz = upw (upw v 54 (daysM (v.1 54) (i + 1))) 54 (cpyM ((upw v 54 (daysM (v.1 54) (i + 1))).1 56) ((upw v 54 (daysM (v.1 54) (i + 1))).1 54) 83) := ⟨_, rfl⟩
              rw [← hv_9] at hP
              rw [show v_9 = upw v 54 (cpyM (v.1 56) (v.1 54) 83) from by rw [hv_9]; exact told_end (fun j hj => daysM_hi hM hj _)] at hP
              refine lv_iload_n C.1.1 C.1.2.1 dX6_isTold_78 rfl (lv_at hl 1 rfl) ?_
              exact t_0 C rfl hP hS (by rw [eZ, tn_nI (show Z < 2 ^ 31 by omega)]; exact fun h => (h i (by omega)).elim c_4 c_6) rfl dX6_isTold_79
            · rw [show (nI Z ≤ nI (i + 1)) = (Z ≤ i + 1) from propext (nI_leI (a := Z) (b := i + 1) (by omega) (by omega))] at c_8
              refine lv_iload_n C.1.1 C.1.2.1 dX6_isTold_16 rfl (lv_at hl 1 rfl) ?_
              refine lv_if_eq (tgt := 67) C.1.1 C.1.2.1 dX6_isTold_17 (by decide) (fun _ => ?_) (fun c_10 => absurd c_10 (by decide))
              refine lv_aload_n C.1.1 C.1.2.1 dX6_isTold_67 rfl (lv_at hl 3 rfl) ?_
              refine r_get C hP 53 6 (Nat.lt_of_lt_of_le (by decide) hn) rfl (by decide) rfl hi6 2 (by decide) (List.mem_of_getElem? (i := 3) rfl) rfl (val := .ref (gA g 56)) rfl dX6_isTold_68 ?_
              refine lv_aload_n C.1.1 C.1.2.1 dX6_isTold_71 rfl (lv_at hl 3 rfl) ?_
              refine r_get C hP 53 6 (Nat.lt_of_lt_of_le (by decide) hn) rfl (by decide) rfl hi6 0 (by decide) (List.mem_of_getElem? (i := 4) rfl) rfl (val := .ref (gA g 54)) rfl dX6_isTold_72 ?_
              refine a_G hS (run_S C hP hS hl.1 [.ref (gA g 56), .ref (gA g 54)] (kX6_copies l g n (upw v 54 (daysM (v.1 54) (i + 1))) 56 54 (by decide) (by decide) (by decide)) gX6_isTold_X6_copies hdX6_copies rfl ⟨rfl, rfl⟩ ⟨Nat.le_of_ble_eq_true rfl, Nat.le_of_ble_eq_true rfl⟩ rfl [] rfl (Nat.le_of_ble_eq_true rfl) dX6_isTold_75 ⟨Nat.zero_le _, Nat.zero_le _⟩) (fun H locs hP hS => ?_)
              obtain ⟨v_11, hv_11⟩ : ∃ zz, zz = upw (upw v 54 (daysM (v.1 54) (i + 1))) 54 (cpyM ((upw v 54 (daysM (v.1 54) (i + 1))).1 56) ((upw v 54 (daysM (v.1 54) (i + 1))).1 54) 83) := ⟨_, rfl⟩
              rw [← hv_11] at hP
              rw [show v_11 = upw v 54 (cpyM (v.1 56) (v.1 54) 83) from by rw [hv_11]; exact told_end (fun j hj => daysM_hi hM hj _)] at hP
              refine lv_iload_n C.1.1 C.1.2.1 dX6_isTold_78 rfl (lv_at hl 1 rfl) ?_
              exact t_0 C rfl hP hS (by rw [eZ, tn_nI (show Z < 2 ^ 31 by omega)]; exact fun h => (h i (by omega)).elim c_4 c_6) rfl dX6_isTold_79
          · skip
            refine lv_iconst (v := 1) C.1.1 C.1.2.1 dX6_isTold_51 rfl ?_
            refine lv_goto (tgt := 56) C.1.1 C.1.2.1 dX6_isTold_52 (by decide) ?_
            refine lv_istore_n (lv' := [(3, .int 1), (5, .int (v.1 62 (40 * sx + i))), (0, .ref (gA g 53)), (1, .int (nI sx)), (2, .int (nI r)), (4, .int (nI i))]) C.1.1 C.1.2.1 dX6_isTold_56 rfl hl (by decide) rfl (fun ls hl => ?_)
            refine lv_aload_n C.1.1 C.1.2.1 dX6_isTold_57 rfl (lv_at hl 2 rfl) ?_
            refine a_G hS (run_V C hP hS hl.1 53 6 (Nat.lt_of_lt_of_le (by decide) hn) rfl (by decide) rfl [] (kX6_dayGoes l g n (upw v 54 (daysM (v.1 54) i)) N (by rw [upw_same]; exact okM_days hM i)) gX6_isTold_X6_dayGoes rfl hdX6_dayGoes rfl ⟨rfl, rfl⟩ ⟨Nat.le_of_ble_eq_true rfl, Nat.le_of_ble_eq_true rfl⟩ rfl [] rfl (Nat.le_of_ble_eq_true rfl) dX6_isTold_58 ⟨Nat.zero_le _, Nat.zero_le _⟩) (fun H locs hP hS => ?_)
            obtain ⟨v_12, hv_12⟩ : ∃ zz, zz = upw (upw v 54 (daysM (v.1 54) i)) 54 (dayM ((upw v 54 (daysM (v.1 54) i)).1 54)) := ⟨_, rfl⟩
            rw [← hv_12] at hP
            rw [show v_12 = upw v 54 (daysM (v.1 54) (i + 1)) from by rw [hv_12, upw_same, upw_upw]; rfl] at hP
            refine lv_iinc (v := nI (i + 1)) (lv' := [(4, .int (nI (i + 1))), (3, .int 1), (5, .int (v.1 62 (40 * sx + i))), (0, .ref (gA g 53)), (1, .int (nI sx)), (2, .int (nI r))]) C.1.1 C.1.2.1 dX6_isTold_61 hl (k := 5) rfl (nI_1 i) (by decide) rfl (fun ls hl => ?_)
            refine lv_goto (tgt := 5) C.1.1 C.1.2.1 dX6_isTold_64 (by decide) ?_
            exact ih_5 (i + 1) (by omega) (by omega) _ _ _ (fun t ht => if h9 : t < i then hok t h9 else by rw [show t = i by omega]; first | exact Or.inl c_6 | exact Or.inr c_6) hP hS (lv_sub hl [3, 4, 5, 1, 0] rfl)
  exact lp_5 (Z + 1) 0 (Nat.zero_le _) (by omega) _ _ _ (fun t ht => absurd ht (Nat.not_lt_zero t)) (by rw [show daysM (v.1 54) 0 = v.1 54 from rfl, upw_self]; exact hP) hS (lv_sub hl [2, 3, 4, 1, 0] rfl)

abbrev rmX6_fits : Room := { frames := 5, cells := 0, slots := 0, locals := 115 }
set_option maxHeartbeats 4000000 in
set_option maxRecDepth 100000 in
theorem kX6_fits (l : Launch) (g : GG) (n : Nat) (v : SV) (x y : Int32) (N : Nat) (hM : okM (v.1 54) N) (hSz : ∀ i, i < 4 → ∃ z, z ≤ 40 ∧ v.1 61 i = nI z) : Met l yX6_fits wsX6_fits rmX6_fits (PW g n v [.ref (gA g 53), .int x, .int y]) (QF g n ((fitsM v x y).1) ((fitsM v x y).2)) 0 0 (wA g n) := by
  refine Met.begin RX6 rfl (by decide) rfl (Nat.le_of_ble_eq_true rfl) ?_
  intro p e s m args below meth c ls ha C hP hS hl
  have hn : 64 ≤ n := C.2.1.1.2.1
  have hi6 : ∀ w ∈ u_ws RX6 TX6 17, w ∈ wsX6_fits := by decide +kernel
  have hl : lv_has ls 6 [(0, .ref (gA g 53)), (1, .int x), (2, .int y)] := hl
  have h8 := hM.1
  refine lv_aload_n C.1.1 C.1.2.1 dX6_fits_0 rfl (lv_at hl 0 rfl) ?_
  refine lv_iload_n C.1.1 C.1.2.1 dX6_fits_1 rfl (lv_at hl 1 rfl) ?_
  refine lv_iload_n C.1.1 C.1.2.1 dX6_fits_2 rfl (lv_at hl 2 rfl) ?_
  refine a_F hS (run_V C hP hS hl.1 53 6 (Nat.lt_of_lt_of_le (by decide) hn) rfl (by decide) rfl [.int x, .int y] (kX6_whyNot l g n v x y N hM) gX6_fits_X6_whyNot rfl hdX6_whyNot rfl ⟨rfl, rfl⟩ ⟨Nat.le_of_ble_eq_true rfl, Nat.le_of_ble_eq_true rfl⟩ rfl [] rfl (Nat.le_of_ble_eq_true rfl) dX6_fits_3 ⟨Nat.zero_le _, Nat.zero_le _⟩) (fun H locs hP hS => ?_)
  refine lv_istore_n (lv' := [(3, .int (whyN v x y N)), (0, .ref (gA g 53)), (1, .int x), (2, .int y)]) C.1.1 C.1.2.1 dX6_fits_6 rfl hl (by decide) rfl (fun ls hl => ?_)
  refine lv_iload_n C.1.1 C.1.2.1 dX6_fits_7 rfl (lv_at hl 0 rfl) ?_
  refine lv_if_lt (tgt := 17) C.1.1 C.1.2.1 dX6_fits_8 (by decide) (fun c_1 => ?_) (fun c_1 => ?_)
  · skip
    obtain ⟨jx, jy, hjx, hjy, rfl, rfl⟩ := whyN_ok c_1
    refine lv_aload_n C.1.1 C.1.2.1 dX6_fits_17 rfl (lv_at hl 1 rfl) ?_
    refine r_get C hP 53 6 (Nat.lt_of_lt_of_le (by decide) hn) rfl (by decide) rfl hi6 0 (by decide) (List.mem_of_getElem? (i := 1) rfl) rfl (val := .ref (gA g 54)) rfl dX6_fits_18 ?_
    refine lv_aload_n C.1.1 C.1.2.1 dX6_fits_21 rfl (lv_at hl 1 rfl) ?_
    refine r_get C hP 53 6 (Nat.lt_of_lt_of_le (by decide) hn) rfl (by decide) rfl hi6 2 (by decide) (List.mem_of_getElem? (i := 2) rfl) rfl (val := .ref (gA g 56)) rfl dX6_fits_22 ?_
    refine a_G hS (run_S C hP hS hl.1 [.ref (gA g 54), .ref (gA g 56)] (kX6_copies l g n v 54 56 (by decide) (by decide) (by decide)) gX6_fits_X6_copies hdX6_copies rfl ⟨rfl, rfl⟩ ⟨Nat.le_of_ble_eq_true rfl, Nat.le_of_ble_eq_true rfl⟩ rfl [] rfl (Nat.le_of_ble_eq_true rfl) dX6_fits_25 ⟨Nat.zero_le _, Nat.zero_le _⟩) (fun H locs hP hS => ?_)
    obtain ⟨v_2, hv_2⟩ : ∃ zz, zz = upw v 56 (cpyM (v.1 54) (v.1 56) 83) := ⟨_, rfl⟩
    rw [← hv_2] at hP
    rw [show v_2 = asideM v from hv_2] at hP
    refine lv_iconst (v := 0) C.1.1 C.1.2.1 dX6_fits_28 rfl ?_
    refine lv_istore (lv' := [(4, .int 0), (3, .int (whyN v (nI jx) (nI jy) N)), (0, .ref (gA g 53)), (1, .int (nI jx)), (2, .int (nI jy))]) C.1.1 C.1.2.1 dX6_fits_29 hl (by decide) rfl (fun ls hl => ?_)
    refine lv_iconst (v := 0) C.1.1 C.1.2.1 dX6_fits_31 rfl ?_
    refine lv_istore (lv' := [(5, .int 0), (4, .int 0), (3, .int (whyN v (nI jx) (nI jy) N)), (0, .ref (gA g 53)), (1, .int (nI jx)), (2, .int (nI jy))]) C.1.1 C.1.2.1 dX6_fits_32 hl (by decide) rfl (fun ls hl => ?_)
    have lp_34 : ∀ (k_34 i : Nat), i ≤ 12 → 12 + 1 ≤ i + k_34 → ∀ (H : Heap) (locs : List Loc) (ls : Array Slot), va_P g.1 vwCl (wl g n (asideM v)) H → va_S (wA g n) s.heap H locs → lv_has ls 6 [(0, .ref (gA g 53)), (1, .int (nI jx)), (2, .int (nI jy)), (4, .int (ftM (v.1 54) (v.1 62) (v.1 61 jx).toNatClampNeg jx jy i)), (5, .int (nI i))] → W p l e rmX6_fits s m args below meth c H locs 0 0 (MQ below (QF g n ((fitsM v (nI jx) (nI jy)).1) ((fitsM v (nI jx) (nI jy)).2)) args s 0 0 (wA g n)) (F0 m 34 ls []) := by
      clear hP hS hl
      intro k_34
      induction k_34 with
      | zero => exact fun i h1 h2 => absurd h2 (by omega)
      | succ k_34 ih_34 =>
        intro i hi_34 hk_34 H locs ls hP hS hl
        refine lv_iload C.1.1 C.1.2.1 dX6_fits_34 (lv_at hl 4 rfl) ?_
        refine lv_bipush (v := 12) C.1.1 C.1.2.1 dX6_fits_36 rfl ?_
        refine lv_icmp_ge (tgt := 79) C.1.1 C.1.2.1 dX6_fits_38 (by decide) (fun c_3 => ?_) (fun c_3 => ?_)
        · rw [show (12 ≤ nI i) = (12 ≤ i) from propext (nI_leI (a := 12) (b := i) (by omega) (by omega))] at c_3
          have hiB : i = 12 := by omega
          subst hiB
          refine lv_iload C.1.1 C.1.2.1 dX6_fits_79 (lv_at hl 3 rfl) ?_
          exact t_F C rfl hP hS (by rw [fitsM, nM_eq hM, if_pos c_1, tn_nI (show jx < 2 ^ 31 by omega), tn_nI (show jy < 2 ^ 31 by omega)]) (by rw [fitsM, nM_eq hM, if_pos c_1]) dX6_fits_81
        · rw [show (12 ≤ nI i) = (12 ≤ i) from propext (nI_leI (a := 12) (b := i) (by omega) (by omega))] at c_3
          refine lv_aload_n C.1.1 C.1.2.1 dX6_fits_41 rfl (lv_at hl 0 rfl) ?_
          refine lv_iload_n C.1.1 C.1.2.1 dX6_fits_42 rfl (lv_at hl 2 rfl) ?_
          refine lv_iconst (v := 2) C.1.1 C.1.2.1 dX6_fits_43 rfl ?_
          refine lv_iconst (v := 1) C.1.1 C.1.2.1 dX6_fits_44 rfl ?_
          refine lv_iload C.1.1 C.1.2.1 dX6_fits_45 (lv_at hl 4 rfl) ?_
          refine lv_ishl C.1.1 C.1.2.1 dX6_fits_47 ?_
          refine a_G hS (run_V C hP hS hl.1 53 6 (Nat.lt_of_lt_of_le (by decide) hn) rfl (by decide) rfl [.int (nI jy), .int 2, .int (1 <<< ((nI i) &&& 31))] (kX6_sets l g n (asideM v) jy 2 (1 <<< ((nI i) &&& 31)) (by omega) (by omega)) gX6_fits_X6_sets rfl hdX6_sets rfl ⟨rfl, rfl⟩ ⟨Nat.le_of_ble_eq_true rfl, Nat.le_of_ble_eq_true rfl⟩ rfl [] rfl (Nat.le_of_ble_eq_true rfl) dX6_fits_48 ⟨Nat.zero_le _, Nat.zero_le _⟩) (fun H locs hP hS => ?_)
          obtain ⟨v_4, hv_4⟩ : ∃ zz, zz = up (asideM v) 54 (25 + 8 * 2 + jy) (1 <<< ((nI i) &&& 31)) := ⟨_, rfl⟩
          rw [← hv_4] at hP
          rw [show v_4 = upw (asideM v) 54 (upd (v.1 54) (25 + 8 * 2 + jy) (1 <<< (nI i &&& 31))) from by rw [hv_4]; show upw (asideM v) 54 (upd ((asideM v).1 54) _ _) = _; rw [asideM_54]] at hP
          refine lv_iload C.1.1 C.1.2.1 dX6_fits_51 (lv_at hl 3 rfl) ?_
          refine lv_aload_n C.1.1 C.1.2.1 dX6_fits_53 rfl (lv_at hl 0 rfl) ?_
          refine lv_iload_n C.1.1 C.1.2.1 dX6_fits_54 rfl (lv_at hl 1 rfl) ?_
          refine lv_iload_n C.1.1 C.1.2.1 dX6_fits_55 rfl (lv_at hl 2 rfl) ?_
          have jn_5 : ∀ (H : Heap) (locs : List Loc) (ls : Array Slot), va_P g.1 vwCl (wl g n (asideM v)) H → va_S (wA g n) s.heap H locs → lv_has ls 6 [(0, .ref (gA g 53)), (1, .int (nI jx)), (2, .int (nI jy)), (4, .int (ftM (v.1 54) (v.1 62) (v.1 61 jx).toNatClampNeg jx jy i)), (5, .int (nI i))] → W p l e rmX6_fits s m args below meth c H locs 0 0 (MQ below (QF g n ((fitsM v (nI jx) (nI jy)).1) ((fitsM v (nI jx) (nI jy)).2)) args s 0 0 (wA g n)) (F0 m 70 ls [.int (cif (toldP (upd (v.1 54) (25 + 8 * 2 + jy) (1 <<< (nI i &&& 31))) (v.1 62) (v.1 61 jx).toNatClampNeg jx jy) (1 <<< (nI i &&& 31)) 0), .int (ftM (v.1 54) (v.1 62) (v.1 61 jx).toNatClampNeg jx jy i)]) := by
            clear hP hS hl
            intro H locs ls hP hS hl
            refine lv_ior C.1.1 C.1.2.1 dX6_fits_70 ?_
            refine lv_istore (lv' := [(4, .int ((ftM (v.1 54) (v.1 62) (v.1 61 jx).toNatClampNeg jx jy i) ||| (cif (toldP (upd (v.1 54) (25 + 8 * 2 + jy) (1 <<< (nI i &&& 31))) (v.1 62) (v.1 61 jx).toNatClampNeg jx jy) (1 <<< (nI i &&& 31)) 0))), (0, .ref (gA g 53)), (1, .int (nI jx)), (2, .int (nI jy)), (5, .int (nI i))]) C.1.1 C.1.2.1 dX6_fits_71 hl (by decide) rfl (fun ls hl => ?_)
            refine lv_iinc (v := nI (i + 1)) (lv' := [(5, .int (nI (i + 1))), (4, .int ((ftM (v.1 54) (v.1 62) (v.1 61 jx).toNatClampNeg jx jy i) ||| (cif (toldP (upd (v.1 54) (25 + 8 * 2 + jy) (1 <<< (nI i &&& 31))) (v.1 62) (v.1 61 jx).toNatClampNeg jx jy) (1 <<< (nI i &&& 31)) 0))), (0, .ref (gA g 53)), (1, .int (nI jx)), (2, .int (nI jy))]) C.1.1 C.1.2.1 dX6_fits_73 hl (k := 4) rfl (nI_1 i) (by decide) rfl (fun ls hl => ?_)
            refine lv_goto (tgt := 34) C.1.1 C.1.2.1 dX6_fits_76 (by decide) ?_
            exact ih_34 (i + 1) (by omega) (by omega) _ _ _ hP hS (lv_sub hl [2, 3, 4, 1, 0] rfl)
          refine a_B hS (run_V C hP hS hl.1 53 6 (Nat.lt_of_lt_of_le (by decide) hn) rfl (by decide) rfl [.int (nI jx), .int (nI jy)] (kX6_isTold l g n (upw (asideM v) 54 (upd (v.1 54) (25 + 8 * 2 + jy) (1 <<< (nI i &&& 31)))) jx jy (by omega) (by omega) N (by rw [upw_same]; exact okM_at hM (by omega) (Or.inr (by omega))) (fun i hi => by rw [upw_ne _ _ (by decide), asideM_ne (by decide)]; exact hSz i hi)) gX6_fits_X6_isTold rfl hdX6_isTold rfl ⟨rfl, rfl⟩ ⟨Nat.le_of_ble_eq_true rfl, Nat.le_of_ble_eq_true rfl⟩ rfl [.int (ftM (v.1 54) (v.1 62) (v.1 61 jx).toNatClampNeg jx jy i)] rfl (Nat.le_of_ble_eq_true rfl) dX6_fits_56 ⟨Nat.zero_le _, Nat.zero_le _⟩) (fun b_6 H locs hP hS => ?_) (fun b_6 H locs hP hS => ?_)
          · skip
            obtain ⟨v_7, hv_7⟩ : ∃ zz, zz = upw (upw (asideM v) 54 (upd (v.1 54) (25 + 8 * 2 + jy) (1 <<< (nI i &&& 31)))) 54 (cpyM ((upw (asideM v) 54 (upd (v.1 54) (25 + 8 * 2 + jy) (1 <<< (nI i &&& 31)))).1 56) ((upw (asideM v) 54 (upd (v.1 54) (25 + 8 * 2 + jy) (1 <<< (nI i &&& 31)))).1 54) 83) := ⟨_, rfl⟩
            rw [← hv_7] at hP
            rw [upw_same, upw_ne _ _ (by decide), upw_ne _ _ (by decide), asideM_ne (by decide), asideM_ne (by decide)] at b_6
            rw [show v_7 = asideM v from by rw [hv_7]; exact restoreM (fun j hj => by simp only [upd]; rw [if_neg (by omega)])] at hP
            refine lv_if_eq (tgt := 69) C.1.1 C.1.2.1 dX6_fits_59 (by decide) (fun c_8 => absurd c_8 (by decide)) (fun _ => ?_)
            refine lv_iconst (v := 1) C.1.1 C.1.2.1 dX6_fits_62 rfl ?_
            refine lv_iload C.1.1 C.1.2.1 dX6_fits_63 (lv_at hl 4 rfl) ?_
            refine lv_ishl C.1.1 C.1.2.1 dX6_fits_65 ?_
            refine lv_goto (tgt := 70) C.1.1 C.1.2.1 dX6_fits_66 (by decide) ?_
            exact lv_topE (cif (toldP (upd (v.1 54) (25 + 8 * 2 + jy) (1 <<< (nI i &&& 31))) (v.1 62) (v.1 61 jx).toNatClampNeg jx jy) (1 <<< (nI i &&& 31)) 0) (by rw [cif_pos b_6]) (jn_5 _ _ _ hP hS (lv_sub hl [0, 1, 2, 3, 4] rfl))
          · skip
            obtain ⟨v_9, hv_9⟩ : ∃ zz, zz = upw (upw (asideM v) 54 (upd (v.1 54) (25 + 8 * 2 + jy) (1 <<< (nI i &&& 31)))) 54 (cpyM ((upw (asideM v) 54 (upd (v.1 54) (25 + 8 * 2 + jy) (1 <<< (nI i &&& 31)))).1 56) ((upw (asideM v) 54 (upd (v.1 54) (25 + 8 * 2 + jy) (1 <<< (nI i &&& 31)))).1 54) 83) := ⟨_, rfl⟩
            rw [← hv_9] at hP
            rw [upw_same, upw_ne _ _ (by decide), upw_ne _ _ (by decide), asideM_ne (by decide), asideM_ne (by decide)] at b_6
            rw [show v_9 = asideM v from by rw [hv_9]; exact restoreM (fun j hj => by simp only [upd]; rw [if_neg (by omega)])] at hP
            refine lv_if_eq (tgt := 69) C.1.1 C.1.2.1 dX6_fits_59 (by decide) (fun _ => ?_) (fun c_10 => absurd c_10 (by decide))
            refine lv_iconst (v := 0) C.1.1 C.1.2.1 dX6_fits_69 rfl ?_
            exact lv_topE (cif (toldP (upd (v.1 54) (25 + 8 * 2 + jy) (1 <<< (nI i &&& 31))) (v.1 62) (v.1 61 jx).toNatClampNeg jx jy) (1 <<< (nI i &&& 31)) 0) (by rw [cif_neg b_6]) (jn_5 _ _ _ hP hS (lv_sub hl [0, 1, 2, 3, 4] rfl))
    exact lp_34 (12 + 1) 0 (Nat.zero_le _) (by omega) _ _ _ hP hS (lv_sub hl [3, 4, 5, 1, 0] rfl)
  · skip
    obtain ⟨jw, hjw, ew⟩ := whyN_no c_1
    rw [ew] at hl
    refine lv_aload_n C.1.1 C.1.2.1 dX6_fits_11 rfl (lv_at hl 1 rfl) ?_
    refine lv_iload_n C.1.1 C.1.2.1 dX6_fits_12 rfl (lv_at hl 0 rfl) ?_
    refine a_F hS (run_V C hP hS hl.1 53 6 (Nat.lt_of_lt_of_le (by decide) hn) rfl (by decide) rfl [.int (nI jw)] (kX6_finds l g n v jw (by omega)) gX6_fits_X6_finds rfl hdX6_finds rfl ⟨rfl, rfl⟩ ⟨Nat.le_of_ble_eq_true rfl, Nat.le_of_ble_eq_true rfl⟩ rfl [] rfl (Nat.le_of_ble_eq_true rfl) dX6_fits_13 ⟨Nat.zero_le _, Nat.zero_le _⟩) (fun H locs hP hS => ?_)
    obtain ⟨v_11, hv_11⟩ : ∃ zz, zz = fnd v jw := ⟨_, rfl⟩
    rw [← hv_11] at hP
    exact t_F C rfl hP hS (by rw [fitsM, nM_eq hM, if_neg c_1, ew, fdW, tn_nI (show jw < 2 ^ 31 by omega)]; rfl) (by rw [fitsM, nM_eq hM, if_neg c_1, ew, fdW, tn_nI (show jw < 2 ^ 31 by omega), hv_11]; rfl) dX6_fits_16

abbrev rmX6_kinds : Room := { frames := 5, cells := 0, slots := 0, locals := 115 }
set_option maxHeartbeats 4000000 in
set_option maxRecDepth 100000 in
theorem kX6_kinds (l : Launch) (g : GG) (n : Nat) (v : SV) (x y : Int32) (N : Nat) (hM : okM (v.1 54) N) (hSz : ∀ i, i < 4 → ∃ z, z ≤ 40 ∧ v.1 61 i = nI z) : Met l yX6_kinds wsX6_kinds rmX6_kinds (PW g n v [.ref (gA g 53), .int x, .int y]) (QF g n ((kindsM v x y).1) ((kindsM v x y).2)) 0 0 (wA g n) := by
  refine Met.begin RX6 rfl (by decide) rfl (Nat.le_of_ble_eq_true rfl) ?_
  intro p e s m args below meth c ls ha C hP hS hl
  have hn : 64 ≤ n := C.2.1.1.2.1
  have hi6 : ∀ w ∈ u_ws RX6 TX6 17, w ∈ wsX6_kinds := by decide +kernel
  have hl : lv_has ls 6 [(0, .ref (gA g 53)), (1, .int x), (2, .int y)] := hl
  have h8 := hM.1
  refine lv_aload_n C.1.1 C.1.2.1 dX6_kinds_0 rfl (lv_at hl 0 rfl) ?_
  refine lv_iload_n C.1.1 C.1.2.1 dX6_kinds_1 rfl (lv_at hl 1 rfl) ?_
  refine lv_iload_n C.1.1 C.1.2.1 dX6_kinds_2 rfl (lv_at hl 2 rfl) ?_
  refine a_F hS (run_V C hP hS hl.1 53 6 (Nat.lt_of_lt_of_le (by decide) hn) rfl (by decide) rfl [.int x, .int y] (kX6_whyNot l g n v x y N hM) gX6_kinds_X6_whyNot rfl hdX6_whyNot rfl ⟨rfl, rfl⟩ ⟨Nat.le_of_ble_eq_true rfl, Nat.le_of_ble_eq_true rfl⟩ rfl [] rfl (Nat.le_of_ble_eq_true rfl) dX6_kinds_3 ⟨Nat.zero_le _, Nat.zero_le _⟩) (fun H locs hP hS => ?_)
  refine lv_istore_n (lv' := [(3, .int (whyN v x y N)), (0, .ref (gA g 53)), (1, .int x), (2, .int y)]) C.1.1 C.1.2.1 dX6_kinds_6 rfl hl (by decide) rfl (fun ls hl => ?_)
  refine lv_iload_n C.1.1 C.1.2.1 dX6_kinds_7 rfl (lv_at hl 0 rfl) ?_
  refine lv_if_lt (tgt := 17) C.1.1 C.1.2.1 dX6_kinds_8 (by decide) (fun c_1 => ?_) (fun c_1 => ?_)
  · skip
    obtain ⟨jx, jy, hjx, hjy, rfl, rfl⟩ := whyN_ok c_1
    refine lv_aload_n C.1.1 C.1.2.1 dX6_kinds_17 rfl (lv_at hl 1 rfl) ?_
    refine r_get C hP 53 6 (Nat.lt_of_lt_of_le (by decide) hn) rfl (by decide) rfl hi6 0 (by decide) (List.mem_of_getElem? (i := 1) rfl) rfl (val := .ref (gA g 54)) rfl dX6_kinds_18 ?_
    refine lv_aload_n C.1.1 C.1.2.1 dX6_kinds_21 rfl (lv_at hl 1 rfl) ?_
    refine r_get C hP 53 6 (Nat.lt_of_lt_of_le (by decide) hn) rfl (by decide) rfl hi6 2 (by decide) (List.mem_of_getElem? (i := 2) rfl) rfl (val := .ref (gA g 56)) rfl dX6_kinds_22 ?_
    refine a_G hS (run_S C hP hS hl.1 [.ref (gA g 54), .ref (gA g 56)] (kX6_copies l g n v 54 56 (by decide) (by decide) (by decide)) gX6_kinds_X6_copies hdX6_copies rfl ⟨rfl, rfl⟩ ⟨Nat.le_of_ble_eq_true rfl, Nat.le_of_ble_eq_true rfl⟩ rfl [] rfl (Nat.le_of_ble_eq_true rfl) dX6_kinds_25 ⟨Nat.zero_le _, Nat.zero_le _⟩) (fun H locs hP hS => ?_)
    obtain ⟨v_2, hv_2⟩ : ∃ zz, zz = upw v 56 (cpyM (v.1 54) (v.1 56) 83) := ⟨_, rfl⟩
    rw [← hv_2] at hP
    rw [show v_2 = asideM v from hv_2] at hP
    refine lv_iconst (v := 0) C.1.1 C.1.2.1 dX6_kinds_28 rfl ?_
    refine lv_istore (lv' := [(4, .int 0), (3, .int (whyN v (nI jx) (nI jy) N)), (0, .ref (gA g 53)), (1, .int (nI jx)), (2, .int (nI jy))]) C.1.1 C.1.2.1 dX6_kinds_29 hl (by decide) rfl (fun ls hl => ?_)
    refine lv_iconst (v := 0) C.1.1 C.1.2.1 dX6_kinds_31 rfl ?_
    refine lv_istore (lv' := [(5, .int 0), (4, .int 0), (3, .int (whyN v (nI jx) (nI jy) N)), (0, .ref (gA g 53)), (1, .int (nI jx)), (2, .int (nI jy))]) C.1.1 C.1.2.1 dX6_kinds_32 hl (by decide) rfl (fun ls hl => ?_)
    have lp_34 : ∀ (k_34 i : Nat), i ≤ 7 → 7 + 1 ≤ i + k_34 → ∀ (H : Heap) (locs : List Loc) (ls : Array Slot), va_P g.1 vwCl (wl g n (asideM v)) H → va_S (wA g n) s.heap H locs → lv_has ls 6 [(0, .ref (gA g 53)), (1, .int (nI jx)), (2, .int (nI jy)), (4, .int (ksM (v.1 54) (v.1 62) (v.1 61 jx).toNatClampNeg jx jy i)), (5, .int (nI i))] → W p l e rmX6_kinds s m args below meth c H locs 0 0 (MQ below (QF g n ((kindsM v (nI jx) (nI jy)).1) ((kindsM v (nI jx) (nI jy)).2)) args s 0 0 (wA g n)) (F0 m 34 ls []) := by
      clear hP hS hl
      intro k_34
      induction k_34 with
      | zero => exact fun i h1 h2 => absurd h2 (by omega)
      | succ k_34 ih_34 =>
        intro i hi_34 hk_34 H locs ls hP hS hl
        refine lv_iload C.1.1 C.1.2.1 dX6_kinds_34 (lv_at hl 4 rfl) ?_
        refine lv_bipush (v := 7) C.1.1 C.1.2.1 dX6_kinds_36 rfl ?_
        refine lv_icmp_ge (tgt := 77) C.1.1 C.1.2.1 dX6_kinds_38 (by decide) (fun c_3 => ?_) (fun c_3 => ?_)
        · rw [show (7 ≤ nI i) = (7 ≤ i) from propext (nI_leI (a := 7) (b := i) (by omega) (by omega))] at c_3
          have hiB : i = 7 := by omega
          subst hiB
          refine lv_iload C.1.1 C.1.2.1 dX6_kinds_77 (lv_at hl 3 rfl) ?_
          exact t_F C rfl hP hS (by rw [kindsM, nM_eq hM, if_pos c_1, tn_nI (show jx < 2 ^ 31 by omega), tn_nI (show jy < 2 ^ 31 by omega)]) (by rw [kindsM, nM_eq hM, if_pos c_1]) dX6_kinds_79
        · rw [show (7 ≤ nI i) = (7 ≤ i) from propext (nI_leI (a := 7) (b := i) (by omega) (by omega))] at c_3
          refine lv_aload_n C.1.1 C.1.2.1 dX6_kinds_41 rfl (lv_at hl 0 rfl) ?_
          refine lv_iload_n C.1.1 C.1.2.1 dX6_kinds_42 rfl (lv_at hl 2 rfl) ?_
          refine lv_iconst (v := 0) C.1.1 C.1.2.1 dX6_kinds_43 rfl ?_
          refine lv_iload C.1.1 C.1.2.1 dX6_kinds_44 (lv_at hl 4 rfl) ?_
          refine a_G hS (run_V C hP hS hl.1 53 6 (Nat.lt_of_lt_of_le (by decide) hn) rfl (by decide) rfl [.int (nI jy), .int 0, .int (nI i)] (kX6_sets l g n (asideM v) jy 0 (nI i) (by omega) (by omega)) gX6_kinds_X6_sets rfl hdX6_sets rfl ⟨rfl, rfl⟩ ⟨Nat.le_of_ble_eq_true rfl, Nat.le_of_ble_eq_true rfl⟩ rfl [] rfl (Nat.le_of_ble_eq_true rfl) dX6_kinds_46 ⟨Nat.zero_le _, Nat.zero_le _⟩) (fun H locs hP hS => ?_)
          obtain ⟨v_4, hv_4⟩ : ∃ zz, zz = up (asideM v) 54 (25 + 8 * 0 + jy) (nI i) := ⟨_, rfl⟩
          rw [← hv_4] at hP
          rw [show v_4 = upw (asideM v) 54 (upd (v.1 54) (25 + 8 * 0 + jy) (nI i)) from by rw [hv_4]; show upw (asideM v) 54 (upd ((asideM v).1 54) _ _) = _; rw [asideM_54]] at hP
          refine lv_iload C.1.1 C.1.2.1 dX6_kinds_49 (lv_at hl 3 rfl) ?_
          refine lv_aload_n C.1.1 C.1.2.1 dX6_kinds_51 rfl (lv_at hl 0 rfl) ?_
          refine lv_iload_n C.1.1 C.1.2.1 dX6_kinds_52 rfl (lv_at hl 1 rfl) ?_
          refine lv_iload_n C.1.1 C.1.2.1 dX6_kinds_53 rfl (lv_at hl 2 rfl) ?_
          have jn_5 : ∀ (H : Heap) (locs : List Loc) (ls : Array Slot), va_P g.1 vwCl (wl g n (asideM v)) H → va_S (wA g n) s.heap H locs → lv_has ls 6 [(0, .ref (gA g 53)), (1, .int (nI jx)), (2, .int (nI jy)), (4, .int (ksM (v.1 54) (v.1 62) (v.1 61 jx).toNatClampNeg jx jy i)), (5, .int (nI i))] → W p l e rmX6_kinds s m args below meth c H locs 0 0 (MQ below (QF g n ((kindsM v (nI jx) (nI jy)).1) ((kindsM v (nI jx) (nI jy)).2)) args s 0 0 (wA g n)) (F0 m 68 ls [.int (cif (toldP (upd (v.1 54) (25 + 8 * 0 + jy) (nI i)) (v.1 62) (v.1 61 jx).toNatClampNeg jx jy) (1 <<< (nI i &&& 31)) 0), .int (ksM (v.1 54) (v.1 62) (v.1 61 jx).toNatClampNeg jx jy i)]) := by
            clear hP hS hl
            intro H locs ls hP hS hl
            refine lv_ior C.1.1 C.1.2.1 dX6_kinds_68 ?_
            refine lv_istore (lv' := [(4, .int ((ksM (v.1 54) (v.1 62) (v.1 61 jx).toNatClampNeg jx jy i) ||| (cif (toldP (upd (v.1 54) (25 + 8 * 0 + jy) (nI i)) (v.1 62) (v.1 61 jx).toNatClampNeg jx jy) (1 <<< (nI i &&& 31)) 0))), (0, .ref (gA g 53)), (1, .int (nI jx)), (2, .int (nI jy)), (5, .int (nI i))]) C.1.1 C.1.2.1 dX6_kinds_69 hl (by decide) rfl (fun ls hl => ?_)
            refine lv_iinc (v := nI (i + 1)) (lv' := [(5, .int (nI (i + 1))), (4, .int ((ksM (v.1 54) (v.1 62) (v.1 61 jx).toNatClampNeg jx jy i) ||| (cif (toldP (upd (v.1 54) (25 + 8 * 0 + jy) (nI i)) (v.1 62) (v.1 61 jx).toNatClampNeg jx jy) (1 <<< (nI i &&& 31)) 0))), (0, .ref (gA g 53)), (1, .int (nI jx)), (2, .int (nI jy))]) C.1.1 C.1.2.1 dX6_kinds_71 hl (k := 4) rfl (nI_1 i) (by decide) rfl (fun ls hl => ?_)
            refine lv_goto (tgt := 34) C.1.1 C.1.2.1 dX6_kinds_74 (by decide) ?_
            exact ih_34 (i + 1) (by omega) (by omega) _ _ _ hP hS (lv_sub hl [2, 3, 4, 1, 0] rfl)
          refine a_B hS (run_V C hP hS hl.1 53 6 (Nat.lt_of_lt_of_le (by decide) hn) rfl (by decide) rfl [.int (nI jx), .int (nI jy)] (kX6_isTold l g n (upw (asideM v) 54 (upd (v.1 54) (25 + 8 * 0 + jy) (nI i))) jx jy (by omega) (by omega) N (by rw [upw_same]; exact okM_at hM (by omega) (Or.inr (by omega))) (fun i hi => by rw [upw_ne _ _ (by decide), asideM_ne (by decide)]; exact hSz i hi)) gX6_kinds_X6_isTold rfl hdX6_isTold rfl ⟨rfl, rfl⟩ ⟨Nat.le_of_ble_eq_true rfl, Nat.le_of_ble_eq_true rfl⟩ rfl [.int (ksM (v.1 54) (v.1 62) (v.1 61 jx).toNatClampNeg jx jy i)] rfl (Nat.le_of_ble_eq_true rfl) dX6_kinds_54 ⟨Nat.zero_le _, Nat.zero_le _⟩) (fun b_6 H locs hP hS => ?_) (fun b_6 H locs hP hS => ?_)
          · skip
            obtain ⟨v_7, hv_7⟩ : ∃ zz, zz = upw (upw (asideM v) 54 (upd (v.1 54) (25 + 8 * 0 + jy) (nI i))) 54 (cpyM ((upw (asideM v) 54 (upd (v.1 54) (25 + 8 * 0 + jy) (nI i))).1 56) ((upw (asideM v) 54 (upd (v.1 54) (25 + 8 * 0 + jy) (nI i))).1 54) 83) := ⟨_, rfl⟩
            rw [← hv_7] at hP
            rw [upw_same, upw_ne _ _ (by decide), upw_ne _ _ (by decide), asideM_ne (by decide), asideM_ne (by decide)] at b_6
            rw [show v_7 = asideM v from by rw [hv_7]; exact restoreM (fun j hj => by simp only [upd]; rw [if_neg (by omega)])] at hP
            refine lv_if_eq (tgt := 67) C.1.1 C.1.2.1 dX6_kinds_57 (by decide) (fun c_8 => absurd c_8 (by decide)) (fun _ => ?_)
            refine lv_iconst (v := 1) C.1.1 C.1.2.1 dX6_kinds_60 rfl ?_
            refine lv_iload C.1.1 C.1.2.1 dX6_kinds_61 (lv_at hl 4 rfl) ?_
            refine lv_ishl C.1.1 C.1.2.1 dX6_kinds_63 ?_
            refine lv_goto (tgt := 68) C.1.1 C.1.2.1 dX6_kinds_64 (by decide) ?_
            exact lv_topE (cif (toldP (upd (v.1 54) (25 + 8 * 0 + jy) (nI i)) (v.1 62) (v.1 61 jx).toNatClampNeg jx jy) (1 <<< (nI i &&& 31)) 0) (by rw [cif_pos b_6]) (jn_5 _ _ _ hP hS (lv_sub hl [0, 1, 2, 3, 4] rfl))
          · skip
            obtain ⟨v_9, hv_9⟩ : ∃ zz, zz = upw (upw (asideM v) 54 (upd (v.1 54) (25 + 8 * 0 + jy) (nI i))) 54 (cpyM ((upw (asideM v) 54 (upd (v.1 54) (25 + 8 * 0 + jy) (nI i))).1 56) ((upw (asideM v) 54 (upd (v.1 54) (25 + 8 * 0 + jy) (nI i))).1 54) 83) := ⟨_, rfl⟩
            rw [← hv_9] at hP
            rw [upw_same, upw_ne _ _ (by decide), upw_ne _ _ (by decide), asideM_ne (by decide), asideM_ne (by decide)] at b_6
            rw [show v_9 = asideM v from by rw [hv_9]; exact restoreM (fun j hj => by simp only [upd]; rw [if_neg (by omega)])] at hP
            refine lv_if_eq (tgt := 67) C.1.1 C.1.2.1 dX6_kinds_57 (by decide) (fun _ => ?_) (fun c_10 => absurd c_10 (by decide))
            refine lv_iconst (v := 0) C.1.1 C.1.2.1 dX6_kinds_67 rfl ?_
            exact lv_topE (cif (toldP (upd (v.1 54) (25 + 8 * 0 + jy) (nI i)) (v.1 62) (v.1 61 jx).toNatClampNeg jx jy) (1 <<< (nI i &&& 31)) 0) (by rw [cif_neg b_6]) (jn_5 _ _ _ hP hS (lv_sub hl [0, 1, 2, 3, 4] rfl))
    exact lp_34 (7 + 1) 0 (Nat.zero_le _) (by omega) _ _ _ hP hS (lv_sub hl [3, 4, 5, 1, 0] rfl)
  · skip
    obtain ⟨jw, hjw, ew⟩ := whyN_no c_1
    rw [ew] at hl
    refine lv_aload_n C.1.1 C.1.2.1 dX6_kinds_11 rfl (lv_at hl 1 rfl) ?_
    refine lv_iload_n C.1.1 C.1.2.1 dX6_kinds_12 rfl (lv_at hl 0 rfl) ?_
    refine a_F hS (run_V C hP hS hl.1 53 6 (Nat.lt_of_lt_of_le (by decide) hn) rfl (by decide) rfl [.int (nI jw)] (kX6_finds l g n v jw (by omega)) gX6_kinds_X6_finds rfl hdX6_finds rfl ⟨rfl, rfl⟩ ⟨Nat.le_of_ble_eq_true rfl, Nat.le_of_ble_eq_true rfl⟩ rfl [] rfl (Nat.le_of_ble_eq_true rfl) dX6_kinds_13 ⟨Nat.zero_le _, Nat.zero_le _⟩) (fun H locs hP hS => ?_)
    obtain ⟨v_11, hv_11⟩ : ∃ zz, zz = fnd v jw := ⟨_, rfl⟩
    rw [← hv_11] at hP
    exact t_F C rfl hP hS (by rw [kindsM, nM_eq hM, if_neg c_1, ew, fdW, tn_nI (show jw < 2 ^ 31 by omega)]; rfl) (by rw [kindsM, nM_eq hM, if_neg c_1, ew, fdW, tn_nI (show jw < 2 ^ 31 by omega), hv_11]; rfl) dX6_kinds_16

