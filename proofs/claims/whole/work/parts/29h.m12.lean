abbrev rmX6_wrongHere : Room := { frames := 0, cells := 0, slots := 0, locals := 0 }
set_option maxHeartbeats 4000000 in
set_option maxRecDepth 100000 in
theorem kX6_wrongHere (l : Launch) (g : GG) (n : Nat) (v : SV) (w : SV) (T c : Nat) (fa : Int32) (d : Nat → Int32) (hv : v = psS w T c fa d) (hT : w.1 53 7 = nI T) (hT2 : T ≤ 120) (hc : c ≤ T) : Met l yX6_wrongHere wsX6_wrongHere rmX6_wrongHere (PW g n v [.ref (gA g 53)]) (QG g n (psS w T c (wrF fa c) d)) 0 0 (wA g n) := by
  refine Met.begin RX6 rfl (by decide) rfl (Nat.le_of_ble_eq_true rfl) ?_
  intro p e s m args below meth c ls ha C hP hS hl
  have hn : 64 ≤ n := C.2.1.1.2.1
  have hi6 : ∀ w ∈ u_ws RX6 TX6 17, w ∈ wsX6_wrongHere := by decide +kernel
  have hl : lv_has ls 1 [(0, .ref (gA g 53))] := hl
  rw [hv] at hP
  refine lv_aload_n C.1.1 C.1.2.1 dX6_wrongHere_0 rfl (lv_at hl 0 rfl) ?_
  refine lv_aload_n C.1.1 C.1.2.1 dX6_wrongHere_1 rfl (lv_at hl 0 rfl) ?_
  refine r_get C hP 53 6 (Nat.lt_of_lt_of_le (by decide) hn) rfl (by decide) rfl hi6 12 (by decide) (List.mem_of_getElem? (i := 1) rfl) rfl (val := .int ((psS w T c fa d).1 53 12)) rfl dX6_wrongHere_2 ?_
  refine lv_topE fa rfl ?_
  have jn_1 : ∀ (H : Heap) (locs : List Loc) (ls : Array Slot), va_P g.1 vwCl (wl g n (psS w T c fa d)) H → va_S (wA g n) s.heap H locs → lv_has ls 1 [(0, .ref (gA g 53))] → W p l e rmX6_wrongHere s m args below meth c H locs 0 0 (MQ below (QG g n (psS w T c (wrF fa c) d)) args s 0 0 (wA g n)) (F0 m 19 ls [.int (if 0 ≤ fa then fa else nI c), .ref (gA g 53)]) := by
    clear hP hS hl
    intro H locs ls hP hS hl
    refine r_put C hP hS 53 6 (Nat.lt_of_lt_of_le (by decide) hn) rfl (by decide) rfl hi6 tyX6 tyX6_ok nmX6 12 (by decide) (List.mem_of_getElem? (i := 1) rfl) rfl rfl rfl rfl rfl (Nat.le_of_ble_eq_true rfl) dX6_wrongHere_19 (fun H locs hP hS => ?_)
    rw [show up (psS w T c fa d) 53 12 (if 0 ≤ fa then fa else nI c) = psS w T c (if 0 ≤ fa then fa else nI c) d from ps_12 _ _ _ _ _ _] at hP
    exact t_G C rfl hP hS rfl dX6_wrongHere_22
  refine lv_if_ge (tgt := 15) C.1.1 C.1.2.1 dX6_wrongHere_5 (by decide) (fun c_3 => ?_) (fun c_3 => ?_)
  · skip
    refine lv_aload_n C.1.1 C.1.2.1 dX6_wrongHere_15 rfl (lv_at hl 0 rfl) ?_
    refine r_get C hP 53 6 (Nat.lt_of_lt_of_le (by decide) hn) rfl (by decide) rfl hi6 12 (by decide) (List.mem_of_getElem? (i := 1) rfl) rfl (val := .int ((psS w T c fa d).1 53 12)) rfl dX6_wrongHere_16 ?_
    refine lv_topE fa rfl ?_
    exact lv_topE (if 0 ≤ fa then fa else nI c) (by rw [if_pos c_3]) (jn_1 _ _ _ hP hS (lv_sub hl [0] rfl))
  · skip
    refine lv_aload_n C.1.1 C.1.2.1 dX6_wrongHere_8 rfl (lv_at hl 0 rfl) ?_
    refine r_get C hP 53 6 (Nat.lt_of_lt_of_le (by decide) hn) rfl (by decide) rfl hi6 10 (by decide) (List.mem_of_getElem? (i := 2) rfl) rfl (val := .int ((psS w T c fa d).1 53 10)) rfl dX6_wrongHere_9 ?_
    refine lv_topE (nI c) rfl ?_
    refine lv_goto (tgt := 19) C.1.1 C.1.2.1 dX6_wrongHere_12 (by decide) ?_
    exact lv_topE (if 0 ≤ fa then fa else nI c) (by rw [if_neg c_3]) (jn_1 _ _ _ hP hS (lv_sub hl [0] rfl))

abbrev rmX6_isWord : Room := { frames := 0, cells := 0, slots := 0, locals := 0 }
set_option maxHeartbeats 4000000 in
set_option maxRecDepth 100000 in
theorem kX6_isWord (l : Launch) (g : GG) (n : Nat) (v : SV) (y : Int64) (w : SV) (T c : Nat) (fa : Int32) (d : Nat → Int32) (hv : v = psS w T c fa d) (hT : w.1 53 7 = nI T) (hT2 : T ≤ 120) (hc : c ≤ T) : Met l yX6_isWord wsX6_isWord rmX6_isWord (PW g n v [.ref (gA g 53), .long y]) (QB g n (wdP (bB w T) T c y) v) 0 0 (wA g n) := by
  refine Met.begin RX6 rfl (by decide) rfl (Nat.le_of_ble_eq_true rfl) ?_
  intro p e s m args below meth c ls ha C hP hS hl
  have hn : 64 ≤ n := C.2.1.1.2.1
  have hi6 : ∀ w ∈ u_ws RX6 TX6 17, w ∈ wsX6_isWord := by decide +kernel
  have hl : lv_has ls 3 [(0, .ref (gA g 53)), (1, .long y)] := hl
  rw [hv] at hP
  refine lv_aload_n C.1.1 C.1.2.1 dX6_isWord_0 rfl (lv_at hl 0 rfl) ?_
  refine r_get C hP 53 6 (Nat.lt_of_lt_of_le (by decide) hn) rfl (by decide) rfl hi6 9 (by decide) (List.mem_of_getElem? (i := 1) rfl) rfl (val := .int ((psS w T c fa d).1 53 9)) rfl dX6_isWord_1 ?_
  refine lv_topE (tkK (bB w T) T c) rfl ?_
  refine lv_iconst (v := 1) C.1.1 C.1.2.1 dX6_isWord_4 rfl ?_
  refine lv_icmp_ne (tgt := 21) C.1.1 C.1.2.1 dX6_isWord_5 (by decide) (fun c_1 => ?_) (fun c_1 => ?_)
  · skip
    refine lv_iconst (v := 0) C.1.1 C.1.2.1 dX6_isWord_21 rfl ?_
    exact t_0 C rfl hP hS (by first | exact ⟨by assumption, by assumption⟩ | exact fun h => absurd h.1 (by assumption) | exact fun h => absurd h.2 (by assumption)) hv.symm dX6_isWord_22
  · skip
    refine lv_aload_n C.1.1 C.1.2.1 dX6_isWord_8 rfl (lv_at hl 0 rfl) ?_
    refine r_get C hP 53 6 (Nat.lt_of_lt_of_le (by decide) hn) rfl (by decide) rfl hi6 11 (by decide) (List.mem_of_getElem? (i := 2) rfl) rfl (val := .long ((psS w T c fa d).2)) rfl dX6_isWord_9 ?_
    refine lv_topLE (tkX (bB w T) T c) rfl ?_
    refine lv_lload_n C.1.1 C.1.2.1 dX6_isWord_12 rfl (lv_at hl 1 rfl) ?_
    refine W.lcmp C.1.1 C.1.2.1 dX6_isWord_13 ?_
    refine lv_if_ne (tgt := 21) C.1.1 C.1.2.1 dX6_isWord_14 (by decide) (fun c_2 => ?_) (fun c_2 => ?_)
    · rw [lg_cmp_eq] at c_2
      refine lv_iconst (v := 0) C.1.1 C.1.2.1 dX6_isWord_21 rfl ?_
      exact t_0 C rfl hP hS (by first | exact ⟨by assumption, by assumption⟩ | exact fun h => absurd h.1 (by assumption) | exact fun h => absurd h.2 (by assumption)) hv.symm dX6_isWord_22
    · rw [lg_cmp_eq] at c_2
      refine lv_iconst (v := 1) C.1.1 C.1.2.1 dX6_isWord_17 rfl ?_
      refine lv_goto (tgt := 22) C.1.1 C.1.2.1 dX6_isWord_18 (by decide) ?_
      exact t_1 C rfl hP hS (by first | exact ⟨by assumption, by assumption⟩ | exact fun h => absurd h.1 (by assumption) | exact fun h => absurd h.2 (by assumption)) hv.symm dX6_isWord_22

abbrev rmX6_kindHere : Room := { frames := 1, cells := 0, slots := 0, locals := 22 }
set_option maxHeartbeats 4000000 in
set_option maxRecDepth 100000 in
theorem kX6_kindHere (l : Launch) (g : GG) (n : Nat) (v : SV) (w : SV) (T c : Nat) (fa : Int32) (d : Nat → Int32) (hv : v = psS w T c fa d) (hT : w.1 53 7 = nI T) (hT2 : T ≤ 120) (hc : c ≤ T) : Met l yX6_kindHere wsX6_kindHere rmX6_kindHere (PW g n v [.ref (gA g 53)]) (QF g n (kindT (bB w T) T c) v) 0 0 (wA g n) := by
  refine Met.begin RX6 rfl (by decide) rfl (Nat.le_of_ble_eq_true rfl) ?_
  intro p e s m args below meth c ls ha C hP hS hl
  have hn : 64 ≤ n := C.2.1.1.2.1
  have hi6 : ∀ w ∈ u_ws RX6 TX6 17, w ∈ wsX6_kindHere := by decide +kernel
  have hl : lv_has ls 1 [(0, .ref (gA g 53))] := hl
  rw [hv] at hP
  refine lv_aload_n C.1.1 C.1.2.1 dX6_kindHere_0 rfl (lv_at hl 0 rfl) ?_
  refine lv_ldc2 (v := 190500955076) C.1.1 C.1.2.1 C.1.2.2.2.1 (C.1.2.2.2.2 _ (List.mem_of_getElem? (i := 1) rfl)) dX6_kindHere_1 ?_
  refine a_B hS (run_V C hP hS hl.1 53 6 (Nat.lt_of_lt_of_le (by decide) hn) rfl (by decide) rfl [.long 190500955076] (kX6_isWord l g n (psS w T c fa d) 190500955076 w T c fa d rfl hT hT2 hc) gX6_kindHere_X6_isWord rfl hdX6_isWord rfl ⟨rfl, rfl⟩ ⟨Nat.le_of_ble_eq_true rfl, Nat.le_of_ble_eq_true rfl⟩ rfl [] rfl (Nat.le_of_ble_eq_true rfl) dX6_kindHere_4 ⟨Nat.zero_le _, Nat.zero_le _⟩) (fun b_1 H locs hP hS => ?_) (fun b_1 H locs hP hS => ?_)
  · skip
    refine lv_if_eq (tgt := 14) C.1.1 C.1.2.1 dX6_kindHere_7 (by decide) (fun c_2 => absurd c_2 (by decide)) (fun _ => ?_)
    refine lv_iconst (v := 0) C.1.1 C.1.2.1 dX6_kindHere_10 rfl ?_
    refine lv_goto (tgt := 100) C.1.1 C.1.2.1 dX6_kindHere_11 (by decide) ?_
    exact t_F C rfl hP hS (by rw [kindT, cif_pos b_1]) hv.symm dX6_kindHere_100
  · skip
    refine lv_if_eq (tgt := 14) C.1.1 C.1.2.1 dX6_kindHere_7 (by decide) (fun _ => ?_) (fun c_3 => absurd c_3 (by decide))
    refine lv_aload_n C.1.1 C.1.2.1 dX6_kindHere_14 rfl (lv_at hl 0 rfl) ?_
    refine lv_ldc2 (v := 256855) C.1.1 C.1.2.1 C.1.2.2.2.1 (C.1.2.2.2.2 _ (List.mem_of_getElem? (i := 2) rfl)) dX6_kindHere_15 ?_
    refine a_B hS (run_V C hP hS hl.1 53 6 (Nat.lt_of_lt_of_le (by decide) hn) rfl (by decide) rfl [.long 256855] (kX6_isWord l g n (psS w T c fa d) 256855 w T c fa d rfl hT hT2 hc) gX6_kindHere_X6_isWord rfl hdX6_isWord rfl ⟨rfl, rfl⟩ ⟨Nat.le_of_ble_eq_true rfl, Nat.le_of_ble_eq_true rfl⟩ rfl [] rfl (Nat.le_of_ble_eq_true rfl) dX6_kindHere_18 ⟨Nat.zero_le _, Nat.zero_le _⟩) (fun b_4 H locs hP hS => ?_) (fun b_4 H locs hP hS => ?_)
    · skip
      refine lv_if_eq (tgt := 28) C.1.1 C.1.2.1 dX6_kindHere_21 (by decide) (fun c_5 => absurd c_5 (by decide)) (fun _ => ?_)
      refine lv_iconst (v := 1) C.1.1 C.1.2.1 dX6_kindHere_24 rfl ?_
      refine lv_goto (tgt := 100) C.1.1 C.1.2.1 dX6_kindHere_25 (by decide) ?_
      exact t_F C rfl hP hS (by rw [kindT, cif_neg b_1, cif_pos b_4]) hv.symm dX6_kindHere_100
    · skip
      refine lv_if_eq (tgt := 28) C.1.1 C.1.2.1 dX6_kindHere_21 (by decide) (fun _ => ?_) (fun c_6 => absurd c_6 (by decide))
      refine lv_aload_n C.1.1 C.1.2.1 dX6_kindHere_28 rfl (lv_at hl 0 rfl) ?_
      refine lv_ldc2 (v := 1888) C.1.1 C.1.2.1 C.1.2.2.2.1 (C.1.2.2.2.2 _ (List.mem_of_getElem? (i := 3) rfl)) dX6_kindHere_29 ?_
      refine a_B hS (run_V C hP hS hl.1 53 6 (Nat.lt_of_lt_of_le (by decide) hn) rfl (by decide) rfl [.long 1888] (kX6_isWord l g n (psS w T c fa d) 1888 w T c fa d rfl hT hT2 hc) gX6_kindHere_X6_isWord rfl hdX6_isWord rfl ⟨rfl, rfl⟩ ⟨Nat.le_of_ble_eq_true rfl, Nat.le_of_ble_eq_true rfl⟩ rfl [] rfl (Nat.le_of_ble_eq_true rfl) dX6_kindHere_32 ⟨Nat.zero_le _, Nat.zero_le _⟩) (fun b_7 H locs hP hS => ?_) (fun b_7 H locs hP hS => ?_)
      · skip
        refine lv_if_eq (tgt := 42) C.1.1 C.1.2.1 dX6_kindHere_35 (by decide) (fun c_8 => absurd c_8 (by decide)) (fun _ => ?_)
        refine lv_iconst (v := 2) C.1.1 C.1.2.1 dX6_kindHere_38 rfl ?_
        refine lv_goto (tgt := 100) C.1.1 C.1.2.1 dX6_kindHere_39 (by decide) ?_
        exact t_F C rfl hP hS (by rw [kindT, cif_neg b_1, cif_neg b_4, cif_pos b_7]) hv.symm dX6_kindHere_100
      · skip
        refine lv_if_eq (tgt := 42) C.1.1 C.1.2.1 dX6_kindHere_35 (by decide) (fun _ => ?_) (fun c_9 => absurd c_9 (by decide))
        refine lv_aload_n C.1.1 C.1.2.1 dX6_kindHere_42 rfl (lv_at hl 0 rfl) ?_
        refine lv_ldc2 (v := 70400) C.1.1 C.1.2.1 C.1.2.2.2.1 (C.1.2.2.2.2 _ (List.mem_of_getElem? (i := 4) rfl)) dX6_kindHere_43 ?_
        refine a_B hS (run_V C hP hS hl.1 53 6 (Nat.lt_of_lt_of_le (by decide) hn) rfl (by decide) rfl [.long 70400] (kX6_isWord l g n (psS w T c fa d) 70400 w T c fa d rfl hT hT2 hc) gX6_kindHere_X6_isWord rfl hdX6_isWord rfl ⟨rfl, rfl⟩ ⟨Nat.le_of_ble_eq_true rfl, Nat.le_of_ble_eq_true rfl⟩ rfl [] rfl (Nat.le_of_ble_eq_true rfl) dX6_kindHere_46 ⟨Nat.zero_le _, Nat.zero_le _⟩) (fun b_10 H locs hP hS => ?_) (fun b_10 H locs hP hS => ?_)
        · skip
          refine lv_if_eq (tgt := 56) C.1.1 C.1.2.1 dX6_kindHere_49 (by decide) (fun c_11 => absurd c_11 (by decide)) (fun _ => ?_)
          refine lv_iconst (v := 3) C.1.1 C.1.2.1 dX6_kindHere_52 rfl ?_
          refine lv_goto (tgt := 100) C.1.1 C.1.2.1 dX6_kindHere_53 (by decide) ?_
          exact t_F C rfl hP hS (by rw [kindT, cif_neg b_1, cif_neg b_4, cif_neg b_7, cif_pos b_10]) hv.symm dX6_kindHere_100
        · skip
          refine lv_if_eq (tgt := 56) C.1.1 C.1.2.1 dX6_kindHere_49 (by decide) (fun _ => ?_) (fun c_12 => absurd c_12 (by decide))
          refine lv_aload_n C.1.1 C.1.2.1 dX6_kindHere_56 rfl (lv_at hl 0 rfl) ?_
          refine lv_ldc2 (v := 12403634) C.1.1 C.1.2.1 C.1.2.2.2.1 (C.1.2.2.2.2 _ (List.mem_of_getElem? (i := 5) rfl)) dX6_kindHere_57 ?_
          refine a_B hS (run_V C hP hS hl.1 53 6 (Nat.lt_of_lt_of_le (by decide) hn) rfl (by decide) rfl [.long 12403634] (kX6_isWord l g n (psS w T c fa d) 12403634 w T c fa d rfl hT hT2 hc) gX6_kindHere_X6_isWord rfl hdX6_isWord rfl ⟨rfl, rfl⟩ ⟨Nat.le_of_ble_eq_true rfl, Nat.le_of_ble_eq_true rfl⟩ rfl [] rfl (Nat.le_of_ble_eq_true rfl) dX6_kindHere_60 ⟨Nat.zero_le _, Nat.zero_le _⟩) (fun b_13 H locs hP hS => ?_) (fun b_13 H locs hP hS => ?_)
          · skip
            refine lv_if_eq (tgt := 70) C.1.1 C.1.2.1 dX6_kindHere_63 (by decide) (fun c_14 => absurd c_14 (by decide)) (fun _ => ?_)
            refine lv_iconst (v := 4) C.1.1 C.1.2.1 dX6_kindHere_66 rfl ?_
            refine lv_goto (tgt := 100) C.1.1 C.1.2.1 dX6_kindHere_67 (by decide) ?_
            exact t_F C rfl hP hS (by rw [kindT, cif_neg b_1, cif_neg b_4, cif_neg b_7, cif_neg b_10, cif_pos b_13]) hv.symm dX6_kindHere_100
          · skip
            refine lv_if_eq (tgt := 70) C.1.1 C.1.2.1 dX6_kindHere_63 (by decide) (fun _ => ?_) (fun c_15 => absurd c_15 (by decide))
            refine lv_aload_n C.1.1 C.1.2.1 dX6_kindHere_70 rfl (lv_at hl 0 rfl) ?_
            refine lv_ldc2 (v := 82410) C.1.1 C.1.2.1 C.1.2.2.2.1 (C.1.2.2.2.2 _ (List.mem_of_getElem? (i := 6) rfl)) dX6_kindHere_71 ?_
            refine a_B hS (run_V C hP hS hl.1 53 6 (Nat.lt_of_lt_of_le (by decide) hn) rfl (by decide) rfl [.long 82410] (kX6_isWord l g n (psS w T c fa d) 82410 w T c fa d rfl hT hT2 hc) gX6_kindHere_X6_isWord rfl hdX6_isWord rfl ⟨rfl, rfl⟩ ⟨Nat.le_of_ble_eq_true rfl, Nat.le_of_ble_eq_true rfl⟩ rfl [] rfl (Nat.le_of_ble_eq_true rfl) dX6_kindHere_74 ⟨Nat.zero_le _, Nat.zero_le _⟩) (fun b_16 H locs hP hS => ?_) (fun b_16 H locs hP hS => ?_)
            · skip
              refine lv_if_eq (tgt := 84) C.1.1 C.1.2.1 dX6_kindHere_77 (by decide) (fun c_17 => absurd c_17 (by decide)) (fun _ => ?_)
              refine lv_iconst (v := 5) C.1.1 C.1.2.1 dX6_kindHere_80 rfl ?_
              refine lv_goto (tgt := 100) C.1.1 C.1.2.1 dX6_kindHere_81 (by decide) ?_
              exact t_F C rfl hP hS (by rw [kindT, cif_neg b_1, cif_neg b_4, cif_neg b_7, cif_neg b_10, cif_neg b_13, cif_pos b_16]) hv.symm dX6_kindHere_100
            · skip
              refine lv_if_eq (tgt := 84) C.1.1 C.1.2.1 dX6_kindHere_77 (by decide) (fun _ => ?_) (fun c_18 => absurd c_18 (by decide))
              refine lv_aload_n C.1.1 C.1.2.1 dX6_kindHere_84 rfl (lv_at hl 0 rfl) ?_
              refine lv_ldc2 (v := 8779) C.1.1 C.1.2.1 C.1.2.2.2.1 (C.1.2.2.2.2 _ (List.mem_of_getElem? (i := 7) rfl)) dX6_kindHere_85 ?_
              refine a_B hS (run_V C hP hS hl.1 53 6 (Nat.lt_of_lt_of_le (by decide) hn) rfl (by decide) rfl [.long 8779] (kX6_isWord l g n (psS w T c fa d) 8779 w T c fa d rfl hT hT2 hc) gX6_kindHere_X6_isWord rfl hdX6_isWord rfl ⟨rfl, rfl⟩ ⟨Nat.le_of_ble_eq_true rfl, Nat.le_of_ble_eq_true rfl⟩ rfl [] rfl (Nat.le_of_ble_eq_true rfl) dX6_kindHere_88 ⟨Nat.zero_le _, Nat.zero_le _⟩) (fun b_19 H locs hP hS => ?_) (fun b_19 H locs hP hS => ?_)
              · skip
                refine lv_if_eq (tgt := 99) C.1.1 C.1.2.1 dX6_kindHere_91 (by decide) (fun c_20 => absurd c_20 (by decide)) (fun _ => ?_)
                refine lv_bipush (v := 6) C.1.1 C.1.2.1 dX6_kindHere_94 rfl ?_
                refine lv_goto (tgt := 100) C.1.1 C.1.2.1 dX6_kindHere_96 (by decide) ?_
                exact t_F C rfl hP hS (by rw [kindT, cif_neg b_1, cif_neg b_4, cif_neg b_7, cif_neg b_10, cif_neg b_13, cif_neg b_16, cif_pos b_19]) hv.symm dX6_kindHere_100
              · skip
                refine lv_if_eq (tgt := 99) C.1.1 C.1.2.1 dX6_kindHere_91 (by decide) (fun _ => ?_) (fun c_21 => absurd c_21 (by decide))
                refine lv_iconst (v := (-1)) C.1.1 C.1.2.1 dX6_kindHere_99 rfl ?_
                exact t_F C rfl hP hS (by rw [kindT, cif_neg b_1, cif_neg b_4, cif_neg b_7, cif_neg b_10, cif_neg b_13, cif_neg b_16, cif_neg b_19]) hv.symm dX6_kindHere_100

abbrev rmX6_numberHere : Room := { frames := 2, cells := 0, slots := 0, locals := 42 }
set_option maxHeartbeats 4000000 in
set_option maxRecDepth 100000 in
theorem kX6_numberHere (l : Launch) (g : GG) (n : Nat) (v : SV) (y : Int32) (w : SV) (T c : Nat) (fa : Int32) (d : Nat → Int32) (hv : v = psS w T c fa d) (hT : w.1 53 7 = nI T) (hT2 : T ≤ 120) (hc : c ≤ T) : Met l yX6_numberHere wsX6_numberHere rmX6_numberHere (PW g n v [.ref (gA g 53), .int y]) (QF g n (nhV (bB w T) T c y) (nhS w T c fa d y)) 0 0 (wA g n) := by
  refine Met.begin RX6 rfl (by decide) rfl (Nat.le_of_ble_eq_true rfl) ?_
  intro p e s m args below meth c ls ha C hP hS hl
  have hn : 64 ≤ n := C.2.1.1.2.1
  have hi6 : ∀ w ∈ u_ws RX6 TX6 17, w ∈ wsX6_numberHere := by decide +kernel
  have hl : lv_has ls 3 [(0, .ref (gA g 53)), (1, .int y)] := hl
  rw [hv] at hP
  refine lv_aload_n C.1.1 C.1.2.1 dX6_numberHere_0 rfl (lv_at hl 0 rfl) ?_
  refine r_get C hP 53 6 (Nat.lt_of_lt_of_le (by decide) hn) rfl (by decide) rfl hi6 11 (by decide) (List.mem_of_getElem? (i := 1) rfl) rfl (val := .long ((psS w T c fa d).2)) rfl dX6_numberHere_1 ?_
  refine lv_topLE (tkX (bB w T) T c) rfl ?_
  refine lv_l2i (v := (tkX (bB w T) T c).toInt32) C.1.1 C.1.2.1 dX6_numberHere_4 rfl ?_
  refine lv_istore_n (lv' := [(2, .int ((tkX (bB w T) T c).toInt32)), (0, .ref (gA g 53)), (1, .int y)]) C.1.1 C.1.2.1 dX6_numberHere_5 rfl hl (by decide) rfl (fun ls hl => ?_)
  refine lv_aload_n C.1.1 C.1.2.1 dX6_numberHere_6 rfl (lv_at hl 1 rfl) ?_
  refine r_get C hP 53 6 (Nat.lt_of_lt_of_le (by decide) hn) rfl (by decide) rfl hi6 9 (by decide) (List.mem_of_getElem? (i := 2) rfl) rfl (val := .int ((psS w T c fa d).1 53 9)) rfl dX6_numberHere_7 ?_
  refine lv_topE (tkK (bB w T) T c) rfl ?_
  refine lv_iconst (v := 2) C.1.1 C.1.2.1 dX6_numberHere_10 rfl ?_
  refine lv_icmp_ne (tgt := 24) C.1.1 C.1.2.1 dX6_numberHere_11 (by decide) (fun c_1 => ?_) (fun c_1 => ?_)
  · skip
    refine lv_aload_n C.1.1 C.1.2.1 dX6_numberHere_24 rfl (lv_at hl 1 rfl) ?_
    refine a_G hS (run_V C hP hS hl.1 53 6 (Nat.lt_of_lt_of_le (by decide) hn) rfl (by decide) rfl [] (kX6_wrongHere l g n (psS w T c fa d) w T c fa d rfl hT hT2 hc) gX6_numberHere_X6_wrongHere rfl hdX6_wrongHere rfl ⟨rfl, rfl⟩ ⟨Nat.le_of_ble_eq_true rfl, Nat.le_of_ble_eq_true rfl⟩ rfl [] rfl (Nat.le_of_ble_eq_true rfl) dX6_numberHere_25 ⟨Nat.zero_le _, Nat.zero_le _⟩) (fun H locs hP hS => ?_)
    obtain ⟨v_2, hv_2⟩ : ∃ zz, zz = psS w T c (wrF fa c) d := ⟨_, rfl⟩
    rw [← hv_2] at hP
    refine lv_iconst (v := 0) C.1.1 C.1.2.1 dX6_numberHere_28 rfl ?_
    exact t_F C rfl hP hS (by rw [nhV, cif_neg (fun h => c_1 h.1)]) (by rw [nhS, cif_neg (fun h => c_1 h.1)]) dX6_numberHere_29
  · skip
    refine lv_aload_n C.1.1 C.1.2.1 dX6_numberHere_14 rfl (lv_at hl 1 rfl) ?_
    refine r_get C hP 53 6 (Nat.lt_of_lt_of_le (by decide) hn) rfl (by decide) rfl hi6 11 (by decide) (List.mem_of_getElem? (i := 1) rfl) rfl (val := .long ((psS w T c fa d).2)) rfl dX6_numberHere_15 ?_
    refine lv_topLE (tkX (bB w T) T c) rfl ?_
    refine lv_iload_n C.1.1 C.1.2.1 dX6_numberHere_18 rfl (lv_at hl 2 rfl) ?_
    refine lv_i2l (v := y.toInt64) C.1.1 C.1.2.1 dX6_numberHere_19 rfl ?_
    refine W.lcmp C.1.1 C.1.2.1 dX6_numberHere_20 ?_
    refine lv_if_le (tgt := 30) C.1.1 C.1.2.1 dX6_numberHere_21 (by decide) (fun c_3 => ?_) (fun c_3 => ?_)
    · rw [lg_cmp_le] at c_3
      refine lv_aload_n C.1.1 C.1.2.1 dX6_numberHere_30 rfl (lv_at hl 1 rfl) ?_
      refine a_G hS (run_V C hP hS hl.1 53 6 (Nat.lt_of_lt_of_le (by decide) hn) rfl (by decide) rfl [] (kX6_next l g n (psS w T c fa d) (tkE (bB w T) T c) T hT hT2 rfl (tkE_le hc)) gX6_numberHere_X6_next rfl hdX6_next rfl ⟨rfl, rfl⟩ ⟨Nat.le_of_ble_eq_true rfl, Nat.le_of_ble_eq_true rfl⟩ rfl [] rfl (Nat.le_of_ble_eq_true rfl) dX6_numberHere_31 ⟨Nat.zero_le _, Nat.zero_le _⟩) (fun H locs hP hS => ?_)
      rw [show nextT (psS w T c fa d) T (tkE (bB w T) T c) = psS w T (nx (bB w T) T c) fa d from ps_next _ _ _ _ _] at hP
      refine lv_iload_n C.1.1 C.1.2.1 dX6_numberHere_34 rfl (lv_at hl 0 rfl) ?_
      exact t_F C rfl hP hS (by rw [nhV, cif_pos ⟨c_1, c_3⟩]) (by rw [nhS, cif_pos ⟨c_1, c_3⟩]) dX6_numberHere_35
    · rw [lg_cmp_le] at c_3
      refine lv_aload_n C.1.1 C.1.2.1 dX6_numberHere_24 rfl (lv_at hl 1 rfl) ?_
      refine a_G hS (run_V C hP hS hl.1 53 6 (Nat.lt_of_lt_of_le (by decide) hn) rfl (by decide) rfl [] (kX6_wrongHere l g n (psS w T c fa d) w T c fa d rfl hT hT2 hc) gX6_numberHere_X6_wrongHere rfl hdX6_wrongHere rfl ⟨rfl, rfl⟩ ⟨Nat.le_of_ble_eq_true rfl, Nat.le_of_ble_eq_true rfl⟩ rfl [] rfl (Nat.le_of_ble_eq_true rfl) dX6_numberHere_25 ⟨Nat.zero_le _, Nat.zero_le _⟩) (fun H locs hP hS => ?_)
      obtain ⟨v_4, hv_4⟩ : ∃ zz, zz = psS w T c (wrF fa c) d := ⟨_, rfl⟩
      rw [← hv_4] at hP
      refine lv_iconst (v := 0) C.1.1 C.1.2.1 dX6_numberHere_28 rfl ?_
      exact t_F C rfl hP hS (by rw [nhV, cif_neg (fun h => c_3 h.2)]) (by rw [nhS, cif_neg (fun h => c_3 h.2)]) dX6_numberHere_29

