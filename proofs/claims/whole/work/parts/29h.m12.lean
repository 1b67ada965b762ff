abbrev rmX6_wrongHere : Room := { frames := 0, cells := 0, slots := 0, locals := 0 }
set_option maxHeartbeats 4000000 in
set_option maxRecDepth 100000 in
theorem kX6_wrongHere (l : Launch) (g : GG) (n : Nat) (v : SV) (w : SV) (T ct : Nat) (fa : Int32) (d : Nat → Int32) (hv : v = psS w T ct fa d) (hT : w.1 53 7 = nI T) (hT2 : T ≤ 120) (hc : ct ≤ T) : Met l yX6_wrongHere wsX6_wrongHere rmX6_wrongHere (PW g n v [.ref (gA g 53)]) (QG g n (psS w T ct (wrF fa ct) d)) 0 0 (wA g n) := by
  refine Met.begin RX6 rfl (by decide) rfl (Nat.le_of_ble_eq_true rfl) ?_
  intro p e s m args below meth c ls ha C hP hS hl
  have hn : 64 ≤ n := C.2.1.1.2.1
  have hi6 : ∀ w ∈ u_ws RX6 TX6 17, w ∈ wsX6_wrongHere := by decide +kernel
  have hl : lv_has ls 1 [(0, .ref (gA g 53))] := hl
  rw [hv] at hP
  refine lv_aload_n C.1.1 C.1.2.1 dX6_wrongHere_0 rfl (lv_at hl 0 rfl) ?_
  refine lv_aload_n C.1.1 C.1.2.1 dX6_wrongHere_1 rfl (lv_at hl 0 rfl) ?_
  refine r_get C hP 53 6 (Nat.lt_of_lt_of_le (by decide) hn) rfl (by decide) rfl hi6 12 (by decide) (List.mem_of_getElem? (i := 1) rfl) rfl (val := .int ((psS w T ct fa d).1 53 12)) rfl dX6_wrongHere_2 ?_
  refine lv_topE fa rfl ?_
  have jn_1 : ∀ (H : Heap) (locs : List Loc) (ls : Array Slot), va_P g.1 vwCl (wl g n (psS w T ct fa d)) H → va_S (wA g n) s.heap H locs → lv_has ls 1 [(0, .ref (gA g 53))] → W p l e rmX6_wrongHere s m args below meth c H locs 0 0 (MQ below (QG g n (psS w T ct (wrF fa ct) d)) args s 0 0 (wA g n)) (F0 m 19 ls [.int (if 0 ≤ fa then fa else nI ct), .ref (gA g 53)]) := by
    clear hP hS hl
    intro H locs ls hP hS hl
    refine r_put C hP hS 53 6 (Nat.lt_of_lt_of_le (by decide) hn) rfl (by decide) rfl hi6 tyX6 tyX6_ok nmX6 12 (by decide) (List.mem_of_getElem? (i := 1) rfl) rfl rfl rfl rfl rfl (Nat.le_of_ble_eq_true rfl) dX6_wrongHere_19 (fun H locs hP hS => ?_)
    rw [show up (psS w T ct fa d) 53 12 (if 0 ≤ fa then fa else nI ct) = psS w T ct (if 0 ≤ fa then fa else nI ct) d from ps_12 _ _ _ _ _ _] at hP
    exact t_G C rfl hP hS rfl dX6_wrongHere_22
  refine lv_if_ge (tgt := 15) C.1.1 C.1.2.1 dX6_wrongHere_5 (by decide) (fun c_3 => ?_) (fun c_3 => ?_)
  · skip
    refine lv_aload_n C.1.1 C.1.2.1 dX6_wrongHere_15 rfl (lv_at hl 0 rfl) ?_
    refine r_get C hP 53 6 (Nat.lt_of_lt_of_le (by decide) hn) rfl (by decide) rfl hi6 12 (by decide) (List.mem_of_getElem? (i := 1) rfl) rfl (val := .int ((psS w T ct fa d).1 53 12)) rfl dX6_wrongHere_16 ?_
    refine lv_topE fa rfl ?_
    exact lv_topE (if 0 ≤ fa then fa else nI ct) (by rw [if_pos c_3]) (jn_1 _ _ _ hP hS (lv_sub hl [0] rfl))
  · skip
    refine lv_aload_n C.1.1 C.1.2.1 dX6_wrongHere_8 rfl (lv_at hl 0 rfl) ?_
    refine r_get C hP 53 6 (Nat.lt_of_lt_of_le (by decide) hn) rfl (by decide) rfl hi6 10 (by decide) (List.mem_of_getElem? (i := 2) rfl) rfl (val := .int ((psS w T ct fa d).1 53 10)) rfl dX6_wrongHere_9 ?_
    refine lv_topE (nI ct) rfl ?_
    refine lv_goto (tgt := 19) C.1.1 C.1.2.1 dX6_wrongHere_12 (by decide) ?_
    exact lv_topE (if 0 ≤ fa then fa else nI ct) (by rw [if_neg c_3]) (jn_1 _ _ _ hP hS (lv_sub hl [0] rfl))

abbrev rmX6_isWord : Room := { frames := 0, cells := 0, slots := 0, locals := 0 }
set_option maxHeartbeats 4000000 in
set_option maxRecDepth 100000 in
theorem kX6_isWord (l : Launch) (g : GG) (n : Nat) (v : SV) (y : Int64) (w : SV) (T ct : Nat) (fa : Int32) (d : Nat → Int32) (hv : v = psS w T ct fa d) (hT : w.1 53 7 = nI T) (hT2 : T ≤ 120) (hc : ct ≤ T) : Met l yX6_isWord wsX6_isWord rmX6_isWord (PW g n v [.ref (gA g 53), .long y]) (QB g n (wdP (bB w T) T ct y) v) 0 0 (wA g n) := by
  refine Met.begin RX6 rfl (by decide) rfl (Nat.le_of_ble_eq_true rfl) ?_
  intro p e s m args below meth c ls ha C hP hS hl
  have hn : 64 ≤ n := C.2.1.1.2.1
  have hi6 : ∀ w ∈ u_ws RX6 TX6 17, w ∈ wsX6_isWord := by decide +kernel
  have hl : lv_has ls 3 [(0, .ref (gA g 53)), (1, .long y)] := hl
  rw [hv] at hP
  refine lv_aload_n C.1.1 C.1.2.1 dX6_isWord_0 rfl (lv_at hl 0 rfl) ?_
  refine r_get C hP 53 6 (Nat.lt_of_lt_of_le (by decide) hn) rfl (by decide) rfl hi6 9 (by decide) (List.mem_of_getElem? (i := 1) rfl) rfl (val := .int ((psS w T ct fa d).1 53 9)) rfl dX6_isWord_1 ?_
  refine lv_topE (tkK (bB w T) T ct) rfl ?_
  refine lv_iconst (v := 1) C.1.1 C.1.2.1 dX6_isWord_4 rfl ?_
  refine lv_icmp_ne (tgt := 21) C.1.1 C.1.2.1 dX6_isWord_5 (by decide) (fun c_1 => ?_) (fun c_1 => ?_)
  · skip
    refine lv_iconst (v := 0) C.1.1 C.1.2.1 dX6_isWord_21 rfl ?_
    exact t_0 C rfl hP hS (by first | exact ⟨by assumption, by assumption⟩ | exact fun h => absurd h.1 (by assumption) | exact fun h => absurd h.2 (by assumption)) hv.symm dX6_isWord_22
  · skip
    refine lv_aload_n C.1.1 C.1.2.1 dX6_isWord_8 rfl (lv_at hl 0 rfl) ?_
    refine r_get C hP 53 6 (Nat.lt_of_lt_of_le (by decide) hn) rfl (by decide) rfl hi6 11 (by decide) (List.mem_of_getElem? (i := 2) rfl) rfl (val := .long ((psS w T ct fa d).2)) rfl dX6_isWord_9 ?_
    refine lv_topLE (tkX (bB w T) T ct) rfl ?_
    refine lv_lload_n C.1.1 C.1.2.1 dX6_isWord_12 rfl (lv_at hl 1 rfl) ?_
    refine W.lcmp C.1.1 C.1.2.1 dX6_isWord_13 ?_
    refine lv_if_ne (tgt := 21) C.1.1 C.1.2.1 dX6_isWord_14 (by decide) (fun c_2 => ?_) (fun c_2 => ?_)
    · rw [lg_cmp_eq] at c_2
      refine lv_iconst (v := 0) C.1.1 C.1.2.1 dX6_isWord_21 rfl ?_
      exact t_0 C rfl hP hS (by first | exact ⟨by assumption, by assumption⟩ | exact fun h => absurd h.1 (by assumption) | exact fun h => absurd h.2 (by assumption)) hv.symm dX6_isWord_22
    · rw [lg_cmp_eq] at c_2
      refine lv_iconst (v := 1) C.1.1 C.1.2.1 dX6_isWord_17 rfl ?_
      refine lv_goto (tgt := 22) C.1.1 C.1.2.1 dX6_isWord_18 (by decide) ?_
      exact t_1 C rfl hP hS (by first | exact ⟨by assumption, by assumption⟩ | exact fun h => absurd h.1 (by assumption) | exact fun h => absurd h.2 (by assumption)) hv.symm dX6_isWord_22

abbrev rmX6_kindHere : Room := { frames := 1, cells := 0, slots := 0, locals := 22 }
set_option maxHeartbeats 4000000 in
set_option maxRecDepth 100000 in
theorem kX6_kindHere (l : Launch) (g : GG) (n : Nat) (v : SV) (w : SV) (T ct : Nat) (fa : Int32) (d : Nat → Int32) (hv : v = psS w T ct fa d) (hT : w.1 53 7 = nI T) (hT2 : T ≤ 120) (hc : ct ≤ T) : Met l yX6_kindHere wsX6_kindHere rmX6_kindHere (PW g n v [.ref (gA g 53)]) (QF g n (kindT (bB w T) T ct) v) 0 0 (wA g n) := by
  refine Met.begin RX6 rfl (by decide) rfl (Nat.le_of_ble_eq_true rfl) ?_
  intro p e s m args below meth c ls ha C hP hS hl
  have hn : 64 ≤ n := C.2.1.1.2.1
  have hi6 : ∀ w ∈ u_ws RX6 TX6 17, w ∈ wsX6_kindHere := by decide +kernel
  have hl : lv_has ls 1 [(0, .ref (gA g 53))] := hl
  rw [hv] at hP
  refine lv_aload_n C.1.1 C.1.2.1 dX6_kindHere_0 rfl (lv_at hl 0 rfl) ?_
  refine lv_ldc2 (v := 190500955076) C.1.1 C.1.2.1 C.1.2.2.2.1 (C.1.2.2.2.2 _ (List.mem_of_getElem? (i := 1) rfl)) dX6_kindHere_1 ?_
  refine a_B hS (run_V C hP hS hl.1 53 6 (Nat.lt_of_lt_of_le (by decide) hn) rfl (by decide) rfl [.long 190500955076] (kX6_isWord l g n (psS w T ct fa d) 190500955076 w T ct fa d rfl hT hT2 hc) gX6_kindHere_X6_isWord rfl hdX6_isWord rfl ⟨rfl, rfl⟩ ⟨Nat.le_of_ble_eq_true rfl, Nat.le_of_ble_eq_true rfl⟩ rfl [] rfl (Nat.le_of_ble_eq_true rfl) dX6_kindHere_4 ⟨Nat.zero_le _, Nat.zero_le _⟩) (fun b_1 H locs hP hS => ?_) (fun b_1 H locs hP hS => ?_)
  · skip
    refine lv_if_eq (tgt := 14) C.1.1 C.1.2.1 dX6_kindHere_7 (by decide) (fun c_2 => absurd c_2 (by decide)) (fun _ => ?_)
    refine lv_iconst (v := 0) C.1.1 C.1.2.1 dX6_kindHere_10 rfl ?_
    refine lv_goto (tgt := 100) C.1.1 C.1.2.1 dX6_kindHere_11 (by decide) ?_
    exact t_F C rfl hP hS (by rw [kindT, cif_pos b_1]) hv.symm dX6_kindHere_100
  · skip
    refine lv_if_eq (tgt := 14) C.1.1 C.1.2.1 dX6_kindHere_7 (by decide) (fun _ => ?_) (fun c_3 => absurd c_3 (by decide))
    refine lv_aload_n C.1.1 C.1.2.1 dX6_kindHere_14 rfl (lv_at hl 0 rfl) ?_
    refine lv_ldc2 (v := 256855) C.1.1 C.1.2.1 C.1.2.2.2.1 (C.1.2.2.2.2 _ (List.mem_of_getElem? (i := 2) rfl)) dX6_kindHere_15 ?_
    refine a_B hS (run_V C hP hS hl.1 53 6 (Nat.lt_of_lt_of_le (by decide) hn) rfl (by decide) rfl [.long 256855] (kX6_isWord l g n (psS w T ct fa d) 256855 w T ct fa d rfl hT hT2 hc) gX6_kindHere_X6_isWord rfl hdX6_isWord rfl ⟨rfl, rfl⟩ ⟨Nat.le_of_ble_eq_true rfl, Nat.le_of_ble_eq_true rfl⟩ rfl [] rfl (Nat.le_of_ble_eq_true rfl) dX6_kindHere_18 ⟨Nat.zero_le _, Nat.zero_le _⟩) (fun b_4 H locs hP hS => ?_) (fun b_4 H locs hP hS => ?_)
    · skip
      refine lv_if_eq (tgt := 28) C.1.1 C.1.2.1 dX6_kindHere_21 (by decide) (fun c_5 => absurd c_5 (by decide)) (fun _ => ?_)
      refine lv_iconst (v := 1) C.1.1 C.1.2.1 dX6_kindHere_24 rfl ?_
      refine lv_goto (tgt := 100) C.1.1 C.1.2.1 dX6_kindHere_25 (by decide) ?_
      exact t_F C rfl hP hS (by rw [kindT, cif_neg b_1, cif_pos b_4]) hv.symm dX6_kindHere_100
    · skip
      refine lv_if_eq (tgt := 28) C.1.1 C.1.2.1 dX6_kindHere_21 (by decide) (fun _ => ?_) (fun c_6 => absurd c_6 (by decide))
      refine lv_aload_n C.1.1 C.1.2.1 dX6_kindHere_28 rfl (lv_at hl 0 rfl) ?_
      refine lv_ldc2 (v := 1888) C.1.1 C.1.2.1 C.1.2.2.2.1 (C.1.2.2.2.2 _ (List.mem_of_getElem? (i := 3) rfl)) dX6_kindHere_29 ?_
      refine a_B hS (run_V C hP hS hl.1 53 6 (Nat.lt_of_lt_of_le (by decide) hn) rfl (by decide) rfl [.long 1888] (kX6_isWord l g n (psS w T ct fa d) 1888 w T ct fa d rfl hT hT2 hc) gX6_kindHere_X6_isWord rfl hdX6_isWord rfl ⟨rfl, rfl⟩ ⟨Nat.le_of_ble_eq_true rfl, Nat.le_of_ble_eq_true rfl⟩ rfl [] rfl (Nat.le_of_ble_eq_true rfl) dX6_kindHere_32 ⟨Nat.zero_le _, Nat.zero_le _⟩) (fun b_7 H locs hP hS => ?_) (fun b_7 H locs hP hS => ?_)
      · skip
        refine lv_if_eq (tgt := 42) C.1.1 C.1.2.1 dX6_kindHere_35 (by decide) (fun c_8 => absurd c_8 (by decide)) (fun _ => ?_)
        refine lv_iconst (v := 2) C.1.1 C.1.2.1 dX6_kindHere_38 rfl ?_
        refine lv_goto (tgt := 100) C.1.1 C.1.2.1 dX6_kindHere_39 (by decide) ?_
        exact t_F C rfl hP hS (by rw [kindT, cif_neg b_1, cif_neg b_4, cif_pos b_7]) hv.symm dX6_kindHere_100
      · skip
        refine lv_if_eq (tgt := 42) C.1.1 C.1.2.1 dX6_kindHere_35 (by decide) (fun _ => ?_) (fun c_9 => absurd c_9 (by decide))
        refine lv_aload_n C.1.1 C.1.2.1 dX6_kindHere_42 rfl (lv_at hl 0 rfl) ?_
        refine lv_ldc2 (v := 70400) C.1.1 C.1.2.1 C.1.2.2.2.1 (C.1.2.2.2.2 _ (List.mem_of_getElem? (i := 4) rfl)) dX6_kindHere_43 ?_
        refine a_B hS (run_V C hP hS hl.1 53 6 (Nat.lt_of_lt_of_le (by decide) hn) rfl (by decide) rfl [.long 70400] (kX6_isWord l g n (psS w T ct fa d) 70400 w T ct fa d rfl hT hT2 hc) gX6_kindHere_X6_isWord rfl hdX6_isWord rfl ⟨rfl, rfl⟩ ⟨Nat.le_of_ble_eq_true rfl, Nat.le_of_ble_eq_true rfl⟩ rfl [] rfl (Nat.le_of_ble_eq_true rfl) dX6_kindHere_46 ⟨Nat.zero_le _, Nat.zero_le _⟩) (fun b_10 H locs hP hS => ?_) (fun b_10 H locs hP hS => ?_)
        · skip
          refine lv_if_eq (tgt := 56) C.1.1 C.1.2.1 dX6_kindHere_49 (by decide) (fun c_11 => absurd c_11 (by decide)) (fun _ => ?_)
          refine lv_iconst (v := 3) C.1.1 C.1.2.1 dX6_kindHere_52 rfl ?_
          refine lv_goto (tgt := 100) C.1.1 C.1.2.1 dX6_kindHere_53 (by decide) ?_
          exact t_F C rfl hP hS (by rw [kindT, cif_neg b_1, cif_neg b_4, cif_neg b_7, cif_pos b_10]) hv.symm dX6_kindHere_100
        · skip
          refine lv_if_eq (tgt := 56) C.1.1 C.1.2.1 dX6_kindHere_49 (by decide) (fun _ => ?_) (fun c_12 => absurd c_12 (by decide))
          refine lv_aload_n C.1.1 C.1.2.1 dX6_kindHere_56 rfl (lv_at hl 0 rfl) ?_
          refine lv_ldc2 (v := 12403634) C.1.1 C.1.2.1 C.1.2.2.2.1 (C.1.2.2.2.2 _ (List.mem_of_getElem? (i := 5) rfl)) dX6_kindHere_57 ?_
          refine a_B hS (run_V C hP hS hl.1 53 6 (Nat.lt_of_lt_of_le (by decide) hn) rfl (by decide) rfl [.long 12403634] (kX6_isWord l g n (psS w T ct fa d) 12403634 w T ct fa d rfl hT hT2 hc) gX6_kindHere_X6_isWord rfl hdX6_isWord rfl ⟨rfl, rfl⟩ ⟨Nat.le_of_ble_eq_true rfl, Nat.le_of_ble_eq_true rfl⟩ rfl [] rfl (Nat.le_of_ble_eq_true rfl) dX6_kindHere_60 ⟨Nat.zero_le _, Nat.zero_le _⟩) (fun b_13 H locs hP hS => ?_) (fun b_13 H locs hP hS => ?_)
          · skip
            refine lv_if_eq (tgt := 70) C.1.1 C.1.2.1 dX6_kindHere_63 (by decide) (fun c_14 => absurd c_14 (by decide)) (fun _ => ?_)
            refine lv_iconst (v := 4) C.1.1 C.1.2.1 dX6_kindHere_66 rfl ?_
            refine lv_goto (tgt := 100) C.1.1 C.1.2.1 dX6_kindHere_67 (by decide) ?_
            exact t_F C rfl hP hS (by rw [kindT, cif_neg b_1, cif_neg b_4, cif_neg b_7, cif_neg b_10, cif_pos b_13]) hv.symm dX6_kindHere_100
          · skip
            refine lv_if_eq (tgt := 70) C.1.1 C.1.2.1 dX6_kindHere_63 (by decide) (fun _ => ?_) (fun c_15 => absurd c_15 (by decide))
            refine lv_aload_n C.1.1 C.1.2.1 dX6_kindHere_70 rfl (lv_at hl 0 rfl) ?_
            refine lv_ldc2 (v := 82410) C.1.1 C.1.2.1 C.1.2.2.2.1 (C.1.2.2.2.2 _ (List.mem_of_getElem? (i := 6) rfl)) dX6_kindHere_71 ?_
            refine a_B hS (run_V C hP hS hl.1 53 6 (Nat.lt_of_lt_of_le (by decide) hn) rfl (by decide) rfl [.long 82410] (kX6_isWord l g n (psS w T ct fa d) 82410 w T ct fa d rfl hT hT2 hc) gX6_kindHere_X6_isWord rfl hdX6_isWord rfl ⟨rfl, rfl⟩ ⟨Nat.le_of_ble_eq_true rfl, Nat.le_of_ble_eq_true rfl⟩ rfl [] rfl (Nat.le_of_ble_eq_true rfl) dX6_kindHere_74 ⟨Nat.zero_le _, Nat.zero_le _⟩) (fun b_16 H locs hP hS => ?_) (fun b_16 H locs hP hS => ?_)
            · skip
              refine lv_if_eq (tgt := 84) C.1.1 C.1.2.1 dX6_kindHere_77 (by decide) (fun c_17 => absurd c_17 (by decide)) (fun _ => ?_)
              refine lv_iconst (v := 5) C.1.1 C.1.2.1 dX6_kindHere_80 rfl ?_
              refine lv_goto (tgt := 100) C.1.1 C.1.2.1 dX6_kindHere_81 (by decide) ?_
              exact t_F C rfl hP hS (by rw [kindT, cif_neg b_1, cif_neg b_4, cif_neg b_7, cif_neg b_10, cif_neg b_13, cif_pos b_16]) hv.symm dX6_kindHere_100
            · skip
              refine lv_if_eq (tgt := 84) C.1.1 C.1.2.1 dX6_kindHere_77 (by decide) (fun _ => ?_) (fun c_18 => absurd c_18 (by decide))
              refine lv_aload_n C.1.1 C.1.2.1 dX6_kindHere_84 rfl (lv_at hl 0 rfl) ?_
              refine lv_ldc2 (v := 8779) C.1.1 C.1.2.1 C.1.2.2.2.1 (C.1.2.2.2.2 _ (List.mem_of_getElem? (i := 7) rfl)) dX6_kindHere_85 ?_
              refine a_B hS (run_V C hP hS hl.1 53 6 (Nat.lt_of_lt_of_le (by decide) hn) rfl (by decide) rfl [.long 8779] (kX6_isWord l g n (psS w T ct fa d) 8779 w T ct fa d rfl hT hT2 hc) gX6_kindHere_X6_isWord rfl hdX6_isWord rfl ⟨rfl, rfl⟩ ⟨Nat.le_of_ble_eq_true rfl, Nat.le_of_ble_eq_true rfl⟩ rfl [] rfl (Nat.le_of_ble_eq_true rfl) dX6_kindHere_88 ⟨Nat.zero_le _, Nat.zero_le _⟩) (fun b_19 H locs hP hS => ?_) (fun b_19 H locs hP hS => ?_)
              · skip
                refine lv_if_eq (tgt := 99) C.1.1 C.1.2.1 dX6_kindHere_91 (by decide) (fun c_20 => absurd c_20 (by decide)) (fun _ => ?_)
                refine lv_bipush (v := 6) C.1.1 C.1.2.1 dX6_kindHere_94 rfl ?_
                refine lv_goto (tgt := 100) C.1.1 C.1.2.1 dX6_kindHere_96 (by decide) ?_
                exact t_F C rfl hP hS (by rw [kindT, cif_neg b_1, cif_neg b_4, cif_neg b_7, cif_neg b_10, cif_neg b_13, cif_neg b_16, cif_pos b_19]) hv.symm dX6_kindHere_100
              · skip
                refine lv_if_eq (tgt := 99) C.1.1 C.1.2.1 dX6_kindHere_91 (by decide) (fun _ => ?_) (fun c_21 => absurd c_21 (by decide))
                refine lv_iconst (v := (-1)) C.1.1 C.1.2.1 dX6_kindHere_99 rfl ?_
                exact t_F C rfl hP hS (by rw [kindT, cif_neg b_1, cif_neg b_4, cif_neg b_7, cif_neg b_10, cif_neg b_13, cif_neg b_16, cif_neg b_19]) hv.symm dX6_kindHere_100

abbrev rmX6_numberHere : Room := { frames := 2, cells := 0, slots := 0, locals := 42 }
set_option maxHeartbeats 4000000 in
set_option maxRecDepth 100000 in
theorem kX6_numberHere (l : Launch) (g : GG) (n : Nat) (v : SV) (y : Int32) (w : SV) (T ct : Nat) (fa : Int32) (d : Nat → Int32) (hv : v = psS w T ct fa d) (hT : w.1 53 7 = nI T) (hT2 : T ≤ 120) (hc : ct ≤ T) : Met l yX6_numberHere wsX6_numberHere rmX6_numberHere (PW g n v [.ref (gA g 53), .int y]) (QF g n (nhV (bB w T) T ct y) (psQ w T (nhQ (bB w T) T (ct, fa, d) y))) 0 0 (wA g n) := by
  refine Met.begin RX6 rfl (by decide) rfl (Nat.le_of_ble_eq_true rfl) ?_
  intro p e s m args below meth c ls ha C hP hS hl
  have hn : 64 ≤ n := C.2.1.1.2.1
  have hi6 : ∀ w ∈ u_ws RX6 TX6 17, w ∈ wsX6_numberHere := by decide +kernel
  have hl : lv_has ls 3 [(0, .ref (gA g 53)), (1, .int y)] := hl
  rw [hv] at hP
  refine lv_aload_n C.1.1 C.1.2.1 dX6_numberHere_0 rfl (lv_at hl 0 rfl) ?_
  refine r_get C hP 53 6 (Nat.lt_of_lt_of_le (by decide) hn) rfl (by decide) rfl hi6 11 (by decide) (List.mem_of_getElem? (i := 1) rfl) rfl (val := .long ((psS w T ct fa d).2)) rfl dX6_numberHere_1 ?_
  refine lv_topLE (tkX (bB w T) T ct) rfl ?_
  refine lv_l2i (v := (tkX (bB w T) T ct).toInt32) C.1.1 C.1.2.1 dX6_numberHere_4 rfl ?_
  refine lv_istore_n (lv' := [(2, .int ((tkX (bB w T) T ct).toInt32)), (0, .ref (gA g 53)), (1, .int y)]) C.1.1 C.1.2.1 dX6_numberHere_5 rfl hl (by decide) rfl (fun ls hl => ?_)
  refine lv_aload_n C.1.1 C.1.2.1 dX6_numberHere_6 rfl (lv_at hl 1 rfl) ?_
  refine r_get C hP 53 6 (Nat.lt_of_lt_of_le (by decide) hn) rfl (by decide) rfl hi6 9 (by decide) (List.mem_of_getElem? (i := 2) rfl) rfl (val := .int ((psS w T ct fa d).1 53 9)) rfl dX6_numberHere_7 ?_
  refine lv_topE (tkK (bB w T) T ct) rfl ?_
  refine lv_iconst (v := 2) C.1.1 C.1.2.1 dX6_numberHere_10 rfl ?_
  refine lv_icmp_ne (tgt := 24) C.1.1 C.1.2.1 dX6_numberHere_11 (by decide) (fun c_1 => ?_) (fun c_1 => ?_)
  · skip
    refine lv_aload_n C.1.1 C.1.2.1 dX6_numberHere_24 rfl (lv_at hl 1 rfl) ?_
    refine a_G hS (run_V C hP hS hl.1 53 6 (Nat.lt_of_lt_of_le (by decide) hn) rfl (by decide) rfl [] (kX6_wrongHere l g n (psS w T ct fa d) w T ct fa d rfl hT hT2 hc) gX6_numberHere_X6_wrongHere rfl hdX6_wrongHere rfl ⟨rfl, rfl⟩ ⟨Nat.le_of_ble_eq_true rfl, Nat.le_of_ble_eq_true rfl⟩ rfl [] rfl (Nat.le_of_ble_eq_true rfl) dX6_numberHere_25 ⟨Nat.zero_le _, Nat.zero_le _⟩) (fun H locs hP hS => ?_)
    refine lv_iconst (v := 0) C.1.1 C.1.2.1 dX6_numberHere_28 rfl ?_
    exact t_F C rfl hP hS (by rw [nhV, cif_neg (fun h => c_1 h.1)]) (by rw [nhQ, cif_neg (fun h => c_1 h.1)]) dX6_numberHere_29
  · skip
    refine lv_aload_n C.1.1 C.1.2.1 dX6_numberHere_14 rfl (lv_at hl 1 rfl) ?_
    refine r_get C hP 53 6 (Nat.lt_of_lt_of_le (by decide) hn) rfl (by decide) rfl hi6 11 (by decide) (List.mem_of_getElem? (i := 1) rfl) rfl (val := .long ((psS w T ct fa d).2)) rfl dX6_numberHere_15 ?_
    refine lv_topLE (tkX (bB w T) T ct) rfl ?_
    refine lv_iload_n C.1.1 C.1.2.1 dX6_numberHere_18 rfl (lv_at hl 2 rfl) ?_
    refine lv_i2l (v := y.toInt64) C.1.1 C.1.2.1 dX6_numberHere_19 rfl ?_
    refine W.lcmp C.1.1 C.1.2.1 dX6_numberHere_20 ?_
    refine lv_if_le (tgt := 30) C.1.1 C.1.2.1 dX6_numberHere_21 (by decide) (fun c_2 => ?_) (fun c_2 => ?_)
    · rw [lg_cmp_le] at c_2
      refine lv_aload_n C.1.1 C.1.2.1 dX6_numberHere_30 rfl (lv_at hl 1 rfl) ?_
      refine a_G hS (run_V C hP hS hl.1 53 6 (Nat.lt_of_lt_of_le (by decide) hn) rfl (by decide) rfl [] (kX6_next l g n (psS w T ct fa d) (tkE (bB w T) T ct) T hT hT2 rfl (tkE_le hc)) gX6_numberHere_X6_next rfl hdX6_next rfl ⟨rfl, rfl⟩ ⟨Nat.le_of_ble_eq_true rfl, Nat.le_of_ble_eq_true rfl⟩ rfl [] rfl (Nat.le_of_ble_eq_true rfl) dX6_numberHere_31 ⟨Nat.zero_le _, Nat.zero_le _⟩) (fun H locs hP hS => ?_)
      rw [show nextT (psS w T ct fa d) T (tkE (bB w T) T ct) = psS w T (nx (bB w T) T ct) fa d from ps_next _ _ _ _ _] at hP
      refine lv_iload_n C.1.1 C.1.2.1 dX6_numberHere_34 rfl (lv_at hl 0 rfl) ?_
      exact t_F C rfl hP hS (by rw [nhV, cif_pos ⟨c_1, c_2⟩]) (by rw [nhQ, cif_pos ⟨c_1, c_2⟩]) dX6_numberHere_35
    · rw [lg_cmp_le] at c_2
      refine lv_aload_n C.1.1 C.1.2.1 dX6_numberHere_24 rfl (lv_at hl 1 rfl) ?_
      refine a_G hS (run_V C hP hS hl.1 53 6 (Nat.lt_of_lt_of_le (by decide) hn) rfl (by decide) rfl [] (kX6_wrongHere l g n (psS w T ct fa d) w T ct fa d rfl hT hT2 hc) gX6_numberHere_X6_wrongHere rfl hdX6_wrongHere rfl ⟨rfl, rfl⟩ ⟨Nat.le_of_ble_eq_true rfl, Nat.le_of_ble_eq_true rfl⟩ rfl [] rfl (Nat.le_of_ble_eq_true rfl) dX6_numberHere_25 ⟨Nat.zero_le _, Nat.zero_le _⟩) (fun H locs hP hS => ?_)
      refine lv_iconst (v := 0) C.1.1 C.1.2.1 dX6_numberHere_28 rfl ?_
      exact t_F C rfl hP hS (by rw [nhV, cif_neg (fun h => c_2 h.2)]) (by rw [nhQ, cif_neg (fun h => c_2 h.2)]) dX6_numberHere_29

abbrev rmX6_perhaps : Room := { frames := 3, cells := 0, slots := 0, locals := 64 }
set_option maxHeartbeats 4000000 in
set_option maxRecDepth 100000 in
theorem kX6_perhaps (l : Launch) (g : GG) (n : Nat) (v : SV) (y : Int64) (j : Nat) (z : Int32) (hj : j < 83) (w : SV) (T ct : Nat) (fa : Int32) (d : Nat → Int32) (hv : v = psS w T ct fa d) (hT : w.1 53 7 = nI T) (hT2 : T ≤ 120) (hc : ct ≤ T) : Met l yX6_perhaps wsX6_perhaps rmX6_perhaps (PW g n v [.ref (gA g 53), .long y, .int (nI j), .int z]) (QG g n (psQ w T (phF (bB w T) T (ct, fa, d) y j z))) 0 0 (wA g n) := by
  refine Met.begin RX6 rfl (by decide) rfl (Nat.le_of_ble_eq_true rfl) ?_
  intro p e s m args below meth c ls ha C hP hS hl
  have hn : 64 ≤ n := C.2.1.1.2.1
  have hi6 : ∀ w ∈ u_ws RX6 TX6 17, w ∈ wsX6_perhaps := by decide +kernel
  have hl : lv_has ls 6 [(0, .ref (gA g 53)), (1, .long y), (3, .int (nI j)), (4, .int z)] := hl
  rw [hv] at hP
  refine lv_aload_n C.1.1 C.1.2.1 dX6_perhaps_0 rfl (lv_at hl 0 rfl) ?_
  refine r_get C hP 53 6 (Nat.lt_of_lt_of_le (by decide) hn) rfl (by decide) rfl hi6 12 (by decide) (List.mem_of_getElem? (i := 1) rfl) rfl (val := .int ((psS w T ct fa d).1 53 12)) rfl dX6_perhaps_1 ?_
  refine lv_topE fa rfl ?_
  refine lv_if_ge (tgt := 42) C.1.1 C.1.2.1 dX6_perhaps_4 (by decide) (fun c_1 => ?_) (fun c_1 => ?_)
  · skip
    exact t_G C rfl hP hS (by rw [phF, if_pos c_1]) dX6_perhaps_42
  · skip
    refine lv_aload_n C.1.1 C.1.2.1 dX6_perhaps_7 rfl (lv_at hl 0 rfl) ?_
    refine lv_lload_n C.1.1 C.1.2.1 dX6_perhaps_8 rfl (lv_at hl 1 rfl) ?_
    refine a_B hS (run_V C hP hS hl.1 53 6 (Nat.lt_of_lt_of_le (by decide) hn) rfl (by decide) rfl [.long y] (kX6_isWord l g n (psS w T ct fa d) y w T ct fa d rfl hT hT2 hc) gX6_perhaps_X6_isWord rfl hdX6_isWord rfl ⟨rfl, rfl⟩ ⟨Nat.le_of_ble_eq_true rfl, Nat.le_of_ble_eq_true rfl⟩ rfl [] rfl (Nat.le_of_ble_eq_true rfl) dX6_perhaps_9 ⟨Nat.zero_le _, Nat.zero_le _⟩) (fun b_2 H locs hP hS => ?_) (fun b_2 H locs hP hS => ?_)
    · skip
      refine lv_if_eq (tgt := 42) C.1.1 C.1.2.1 dX6_perhaps_12 (by decide) (fun c_3 => absurd c_3 (by decide)) (fun _ => ?_)
      refine lv_aload_n C.1.1 C.1.2.1 dX6_perhaps_15 rfl (lv_at hl 0 rfl) ?_
      refine a_G hS (run_V C hP hS hl.1 53 6 (Nat.lt_of_lt_of_le (by decide) hn) rfl (by decide) rfl [] (kX6_next l g n (psS w T ct fa d) (tkE (bB w T) T ct) T hT hT2 rfl (tkE_le hc)) gX6_perhaps_X6_next rfl hdX6_next rfl ⟨rfl, rfl⟩ ⟨Nat.le_of_ble_eq_true rfl, Nat.le_of_ble_eq_true rfl⟩ rfl [] rfl (Nat.le_of_ble_eq_true rfl) dX6_perhaps_16 ⟨Nat.zero_le _, Nat.zero_le _⟩) (fun H locs hP hS => ?_)
      rw [show nextT (psS w T ct fa d) T (tkE (bB w T) T ct) = psS w T (nx (bB w T) T ct) fa d from ps_next _ _ _ _ _] at hP
      refine lv_aload_n C.1.1 C.1.2.1 dX6_perhaps_19 rfl (lv_at hl 0 rfl) ?_
      refine lv_iload C.1.1 C.1.2.1 dX6_perhaps_20 (lv_at hl 3 rfl) ?_
      refine a_F hS (run_V C hP hS hl.1 53 6 (Nat.lt_of_lt_of_le (by decide) hn) rfl (by decide) rfl [.int z] (kX6_numberHere l g n (psS w T (nx (bB w T) T ct) fa d) z w T (nx (bB w T) T ct) fa d rfl hT hT2 (nx_le' hc)) gX6_perhaps_X6_numberHere rfl hdX6_numberHere rfl ⟨rfl, rfl⟩ ⟨Nat.le_of_ble_eq_true rfl, Nat.le_of_ble_eq_true rfl⟩ rfl [] rfl (Nat.le_of_ble_eq_true rfl) dX6_perhaps_22 ⟨Nat.zero_le _, Nat.zero_le _⟩) (fun H locs hP hS => ?_)
      obtain ⟨q_4, hq_4⟩ : ∃ zz, zz = nhQ (bB w T) T ((nx (bB w T) T ct), fa, d) z := ⟨_, rfl⟩
      rw [show psQ w T (nhQ (bB w T) T ((nx (bB w T) T ct), fa, d) z) = psS w T q_4.1 q_4.2.1 q_4.2.2 from by rw [hq_4]] at hP
      have cq_4 : q_4.1 ≤ T := by rw [hq_4]; exact nhQ_le (nx_le' hc)
      refine lv_istore (lv' := [(5, .int (nhV (bB w T) T (nx (bB w T) T ct) z)), (0, .ref (gA g 53)), (1, .long y), (3, .int (nI j)), (4, .int z)]) C.1.1 C.1.2.1 dX6_perhaps_25 hl (by decide) rfl (fun ls hl => ?_)
      refine lv_aload_n C.1.1 C.1.2.1 dX6_perhaps_27 rfl (lv_at hl 1 rfl) ?_
      refine r_get C hP 53 6 (Nat.lt_of_lt_of_le (by decide) hn) rfl (by decide) rfl hi6 12 (by decide) (List.mem_of_getElem? (i := 1) rfl) rfl (val := .int ((psS w T q_4.1 q_4.2.1 q_4.2.2).1 53 12)) rfl dX6_perhaps_28 ?_
      refine lv_topE q_4.2.1 rfl ?_
      refine lv_if_ge (tgt := 42) C.1.1 C.1.2.1 dX6_perhaps_31 (by decide) (fun c_5 => ?_) (fun c_5 => ?_)
      · skip
        exact t_G C rfl hP hS (by rw [phF, if_neg c_1, cif_pos b_2, ← hq_4, if_pos c_5]) dX6_perhaps_42
      · skip
        refine lv_aload_n C.1.1 C.1.2.1 dX6_perhaps_34 rfl (lv_at hl 1 rfl) ?_
        refine r_get C hP 53 6 (Nat.lt_of_lt_of_le (by decide) hn) rfl (by decide) rfl hi6 0 (by decide) (List.mem_of_getElem? (i := 2) rfl) rfl (val := .ref (gA g 54)) rfl dX6_perhaps_35 ?_
        refine lv_iload_n C.1.1 C.1.2.1 dX6_perhaps_38 rfl (lv_at hl 3 rfl) ?_
        refine lv_iload C.1.1 C.1.2.1 dX6_perhaps_39 (lv_at hl 0 rfl) ?_
        refine r_iast C hP hS 54 (Nat.lt_of_lt_of_le (by decide) hn) rfl j rfl (N := 83) rfl (by decide) (by omega) dX6_perhaps_41 (fun H locs hP hS => ?_)
        rw [show up (psS w T q_4.1 q_4.2.1 q_4.2.2) 54 j (nhV (bB w T) T (nx (bB w T) T ct) z) = psS w T q_4.1 q_4.2.1 (upd q_4.2.2 j (nhV (bB w T) T (nx (bB w T) T ct) z)) from ps_54 _ _ _ _ _ _ _] at hP
        exact t_G C rfl hP hS (by rw [phF, if_neg c_1, cif_pos b_2, ← hq_4, if_neg c_5]) dX6_perhaps_42
    · skip
      refine lv_if_eq (tgt := 42) C.1.1 C.1.2.1 dX6_perhaps_12 (by decide) (fun _ => ?_) (fun c_6 => absurd c_6 (by decide))
      exact t_G C rfl hP hS (by rw [phF, if_neg c_1, cif_neg b_2]) dX6_perhaps_42

abbrev rmX6_crierHere : Room := { frames := 4, cells := 0, slots := 0, locals := 89 }
set_option maxHeartbeats 4000000 in
set_option maxRecDepth 100000 in
theorem kX6_crierHere (l : Launch) (g : GG) (n : Nat) (v : SV) (w : SV) (T ct : Nat) (fa : Int32) (d : Nat → Int32) (hv : v = psS w T ct fa d) (hT : w.1 53 7 = nI T) (hT2 : T ≤ 120) (hc : ct ≤ T) : Met l yX6_crierHere wsX6_crierHere rmX6_crierHere (PW g n v [.ref (gA g 53)]) (QG g n (psQ w T (crF (bB w T) T (ct, fa, d)))) 0 0 (wA g n) := by
  refine Met.begin RX6 rfl (by decide) rfl (Nat.le_of_ble_eq_true rfl) ?_
  intro p e s m args below meth c ls ha C hP hS hl
  have hn : 64 ≤ n := C.2.1.1.2.1
  have hi6 : ∀ w ∈ u_ws RX6 TX6 17, w ∈ wsX6_crierHere := by decide +kernel
  have hl : lv_has ls 2 [(0, .ref (gA g 53))] := hl
  rw [hv] at hP
  refine lv_aload_n C.1.1 C.1.2.1 dX6_crierHere_0 rfl (lv_at hl 0 rfl) ?_
  refine a_G hS (run_V C hP hS hl.1 53 6 (Nat.lt_of_lt_of_le (by decide) hn) rfl (by decide) rfl [] (kX6_next l g n (psS w T ct fa d) (tkE (bB w T) T ct) T hT hT2 rfl (tkE_le hc)) gX6_crierHere_X6_next rfl hdX6_next rfl ⟨rfl, rfl⟩ ⟨Nat.le_of_ble_eq_true rfl, Nat.le_of_ble_eq_true rfl⟩ rfl [] rfl (Nat.le_of_ble_eq_true rfl) dX6_crierHere_1 ⟨Nat.zero_le _, Nat.zero_le _⟩) (fun H locs hP hS => ?_)
  rw [show nextT (psS w T ct fa d) T (tkE (bB w T) T ct) = psS w T (nx (bB w T) T ct) fa d from ps_next _ _ _ _ _] at hP
  refine lv_aload_n C.1.1 C.1.2.1 dX6_crierHere_4 rfl (lv_at hl 0 rfl) ?_
  refine lv_bipush (v := 15) C.1.1 C.1.2.1 dX6_crierHere_5 rfl ?_
  refine a_F hS (run_V C hP hS hl.1 53 6 (Nat.lt_of_lt_of_le (by decide) hn) rfl (by decide) rfl [.int 15] (kX6_numberHere l g n (psS w T (nx (bB w T) T ct) fa d) 15 w T (nx (bB w T) T ct) fa d rfl hT hT2 (nx_le' hc)) gX6_crierHere_X6_numberHere rfl hdX6_numberHere rfl ⟨rfl, rfl⟩ ⟨Nat.le_of_ble_eq_true rfl, Nat.le_of_ble_eq_true rfl⟩ rfl [] rfl (Nat.le_of_ble_eq_true rfl) dX6_crierHere_7 ⟨Nat.zero_le _, Nat.zero_le _⟩) (fun H locs hP hS => ?_)
  obtain ⟨q_1, hq_1⟩ : ∃ zz, zz = nhQ (bB w T) T ((nx (bB w T) T ct), fa, d) 15 := ⟨_, rfl⟩
  rw [show psQ w T (nhQ (bB w T) T ((nx (bB w T) T ct), fa, d) 15) = psS w T q_1.1 q_1.2.1 q_1.2.2 from by rw [hq_1]] at hP
  have cq_1 : q_1.1 ≤ T := by rw [hq_1]; exact nhQ_le (nx_le' hc)
  refine lv_istore_n (lv' := [(1, .int (nhV (bB w T) T (nx (bB w T) T ct) 15)), (0, .ref (gA g 53))]) C.1.1 C.1.2.1 dX6_crierHere_10 rfl hl (by decide) rfl (fun ls hl => ?_)
  refine lv_aload_n C.1.1 C.1.2.1 dX6_crierHere_11 rfl (lv_at hl 1 rfl) ?_
  refine r_get C hP 53 6 (Nat.lt_of_lt_of_le (by decide) hn) rfl (by decide) rfl hi6 12 (by decide) (List.mem_of_getElem? (i := 1) rfl) rfl (val := .int ((psS w T q_1.1 q_1.2.1 q_1.2.2).1 53 12)) rfl dX6_crierHere_12 ?_
  refine lv_topE q_1.2.1 rfl ?_
  refine lv_if_ge (tgt := 25) C.1.1 C.1.2.1 dX6_crierHere_15 (by decide) (fun c_2 => ?_) (fun c_2 => ?_)
  · skip
    refine lv_aload_n C.1.1 C.1.2.1 dX6_crierHere_25 rfl (lv_at hl 1 rfl) ?_
    refine lv_ldc2 (v := 315743) C.1.1 C.1.2.1 C.1.2.2.2.1 (C.1.2.2.2.2 _ (List.mem_of_getElem? (i := 3) rfl)) dX6_crierHere_26 ?_
    refine lv_iconst (v := 4) C.1.1 C.1.2.1 dX6_crierHere_29 rfl ?_
    refine lv_iconst (v := 5) C.1.1 C.1.2.1 dX6_crierHere_30 rfl ?_
    refine a_G hS (run_V C hP hS hl.1 53 6 (Nat.lt_of_lt_of_le (by decide) hn) rfl (by decide) rfl [.long 315743, .int 4, .int 5] (kX6_perhaps l g n (psS w T q_1.1 q_1.2.1 q_1.2.2) 315743 4 5 (by omega) w T q_1.1 q_1.2.1 q_1.2.2 rfl hT hT2 cq_1) gX6_crierHere_X6_perhaps rfl hdX6_perhaps rfl ⟨rfl, rfl⟩ ⟨Nat.le_of_ble_eq_true rfl, Nat.le_of_ble_eq_true rfl⟩ rfl [] rfl (Nat.le_of_ble_eq_true rfl) dX6_crierHere_31 ⟨Nat.zero_le _, Nat.zero_le _⟩) (fun H locs hP hS => ?_)
    obtain ⟨q_3, hq_3⟩ : ∃ zz, zz = phF (bB w T) T (q_1.1, q_1.2.1, q_1.2.2) 315743 4 5 := ⟨_, rfl⟩
    rw [show psQ w T (phF (bB w T) T (q_1.1, q_1.2.1, q_1.2.2) 315743 4 5) = psS w T q_3.1 q_3.2.1 q_3.2.2 from by rw [hq_3]] at hP
    have cq_3 : q_3.1 ≤ T := by rw [hq_3]; exact phF_le cq_1
    refine lv_aload_n C.1.1 C.1.2.1 dX6_crierHere_34 rfl (lv_at hl 1 rfl) ?_
    refine lv_ldc2 (v := 247702) C.1.1 C.1.2.1 C.1.2.2.2.1 (C.1.2.2.2.2 _ (List.mem_of_getElem? (i := 4) rfl)) dX6_crierHere_35 ?_
    refine lv_iconst (v := 5) C.1.1 C.1.2.1 dX6_crierHere_38 rfl ?_
    refine lv_bipush (v := 9) C.1.1 C.1.2.1 dX6_crierHere_39 rfl ?_
    refine a_G hS (run_V C hP hS hl.1 53 6 (Nat.lt_of_lt_of_le (by decide) hn) rfl (by decide) rfl [.long 247702, .int 5, .int 9] (kX6_perhaps l g n (psS w T q_3.1 q_3.2.1 q_3.2.2) 247702 5 9 (by omega) w T q_3.1 q_3.2.1 q_3.2.2 rfl hT hT2 cq_3) gX6_crierHere_X6_perhaps rfl hdX6_perhaps rfl ⟨rfl, rfl⟩ ⟨Nat.le_of_ble_eq_true rfl, Nat.le_of_ble_eq_true rfl⟩ rfl [] rfl (Nat.le_of_ble_eq_true rfl) dX6_crierHere_41 ⟨Nat.zero_le _, Nat.zero_le _⟩) (fun H locs hP hS => ?_)
    obtain ⟨q_4, hq_4⟩ : ∃ zz, zz = phF (bB w T) T (q_3.1, q_3.2.1, q_3.2.2) 247702 5 9 := ⟨_, rfl⟩
    rw [show psQ w T (phF (bB w T) T (q_3.1, q_3.2.1, q_3.2.2) 247702 5 9) = psS w T q_4.1 q_4.2.1 q_4.2.2 from by rw [hq_4]] at hP
    have cq_4 : q_4.1 ≤ T := by rw [hq_4]; exact phF_le cq_3
    exact t_G C rfl hP hS (by rw [crF, ← hq_1, if_pos c_2, ← hq_3, ← hq_4]) dX6_crierHere_44
  · skip
    refine lv_aload_n C.1.1 C.1.2.1 dX6_crierHere_18 rfl (lv_at hl 1 rfl) ?_
    refine r_get C hP 53 6 (Nat.lt_of_lt_of_le (by decide) hn) rfl (by decide) rfl hi6 0 (by decide) (List.mem_of_getElem? (i := 2) rfl) rfl (val := .ref (gA g 54)) rfl dX6_crierHere_19 ?_
    refine lv_iconst (v := 3) C.1.1 C.1.2.1 dX6_crierHere_22 rfl ?_
    refine lv_iload_n C.1.1 C.1.2.1 dX6_crierHere_23 rfl (lv_at hl 0 rfl) ?_
    refine r_iast C hP hS 54 (Nat.lt_of_lt_of_le (by decide) hn) rfl 3 rfl (N := 83) rfl (by decide) (by omega) dX6_crierHere_24 (fun H locs hP hS => ?_)
    rw [show up (psS w T q_1.1 q_1.2.1 q_1.2.2) 54 3 (nhV (bB w T) T (nx (bB w T) T ct) 15) = psS w T q_1.1 q_1.2.1 (upd q_1.2.2 3 (nhV (bB w T) T (nx (bB w T) T ct) 15)) from ps_54 _ _ _ _ _ _ _] at hP
    refine lv_aload_n C.1.1 C.1.2.1 dX6_crierHere_25 rfl (lv_at hl 1 rfl) ?_
    refine lv_ldc2 (v := 315743) C.1.1 C.1.2.1 C.1.2.2.2.1 (C.1.2.2.2.2 _ (List.mem_of_getElem? (i := 3) rfl)) dX6_crierHere_26 ?_
    refine lv_iconst (v := 4) C.1.1 C.1.2.1 dX6_crierHere_29 rfl ?_
    refine lv_iconst (v := 5) C.1.1 C.1.2.1 dX6_crierHere_30 rfl ?_
    refine a_G hS (run_V C hP hS hl.1 53 6 (Nat.lt_of_lt_of_le (by decide) hn) rfl (by decide) rfl [.long 315743, .int 4, .int 5] (kX6_perhaps l g n (psS w T q_1.1 q_1.2.1 (upd q_1.2.2 3 (nhV (bB w T) T (nx (bB w T) T ct) 15))) 315743 4 5 (by omega) w T q_1.1 q_1.2.1 (upd q_1.2.2 3 (nhV (bB w T) T (nx (bB w T) T ct) 15)) rfl hT hT2 cq_1) gX6_crierHere_X6_perhaps rfl hdX6_perhaps rfl ⟨rfl, rfl⟩ ⟨Nat.le_of_ble_eq_true rfl, Nat.le_of_ble_eq_true rfl⟩ rfl [] rfl (Nat.le_of_ble_eq_true rfl) dX6_crierHere_31 ⟨Nat.zero_le _, Nat.zero_le _⟩) (fun H locs hP hS => ?_)
    obtain ⟨q_5, hq_5⟩ : ∃ zz, zz = phF (bB w T) T (q_1.1, q_1.2.1, (upd q_1.2.2 3 (nhV (bB w T) T (nx (bB w T) T ct) 15))) 315743 4 5 := ⟨_, rfl⟩
    rw [show psQ w T (phF (bB w T) T (q_1.1, q_1.2.1, (upd q_1.2.2 3 (nhV (bB w T) T (nx (bB w T) T ct) 15))) 315743 4 5) = psS w T q_5.1 q_5.2.1 q_5.2.2 from by rw [hq_5]] at hP
    have cq_5 : q_5.1 ≤ T := by rw [hq_5]; exact phF_le cq_1
    refine lv_aload_n C.1.1 C.1.2.1 dX6_crierHere_34 rfl (lv_at hl 1 rfl) ?_
    refine lv_ldc2 (v := 247702) C.1.1 C.1.2.1 C.1.2.2.2.1 (C.1.2.2.2.2 _ (List.mem_of_getElem? (i := 4) rfl)) dX6_crierHere_35 ?_
    refine lv_iconst (v := 5) C.1.1 C.1.2.1 dX6_crierHere_38 rfl ?_
    refine lv_bipush (v := 9) C.1.1 C.1.2.1 dX6_crierHere_39 rfl ?_
    refine a_G hS (run_V C hP hS hl.1 53 6 (Nat.lt_of_lt_of_le (by decide) hn) rfl (by decide) rfl [.long 247702, .int 5, .int 9] (kX6_perhaps l g n (psS w T q_5.1 q_5.2.1 q_5.2.2) 247702 5 9 (by omega) w T q_5.1 q_5.2.1 q_5.2.2 rfl hT hT2 cq_5) gX6_crierHere_X6_perhaps rfl hdX6_perhaps rfl ⟨rfl, rfl⟩ ⟨Nat.le_of_ble_eq_true rfl, Nat.le_of_ble_eq_true rfl⟩ rfl [] rfl (Nat.le_of_ble_eq_true rfl) dX6_crierHere_41 ⟨Nat.zero_le _, Nat.zero_le _⟩) (fun H locs hP hS => ?_)
    obtain ⟨q_6, hq_6⟩ : ∃ zz, zz = phF (bB w T) T (q_5.1, q_5.2.1, q_5.2.2) 247702 5 9 := ⟨_, rfl⟩
    rw [show psQ w T (phF (bB w T) T (q_5.1, q_5.2.1, q_5.2.2) 247702 5 9) = psS w T q_6.1 q_6.2.1 q_6.2.2 from by rw [hq_6]] at hP
    have cq_6 : q_6.1 ≤ T := by rw [hq_6]; exact phF_le cq_5
    exact t_G C rfl hP hS (by rw [crF, ← hq_1, if_neg c_2, ← hq_5, ← hq_6]) dX6_crierHere_44

abbrev rmX6_cryHere : Room := { frames := 3, cells := 0, slots := 0, locals := 64 }
set_option maxHeartbeats 4000000 in
set_option maxRecDepth 100000 in
theorem kX6_cryHere (l : Launch) (g : GG) (n : Nat) (v : SV) (w : SV) (T ct : Nat) (fa : Int32) (d : Nat → Int32) (hv : v = psS w T ct fa d) (hT : w.1 53 7 = nI T) (hT2 : T ≤ 120) (hc : ct ≤ T) : Met l yX6_cryHere wsX6_cryHere rmX6_cryHere (PW g n v [.ref (gA g 53)]) (QG g n (psQ w T (cyF (bB w T) T (ct, fa, d)))) 0 0 (wA g n) := by
  refine Met.begin RX6 rfl (by decide) rfl (Nat.le_of_ble_eq_true rfl) ?_
  intro p e s m args below meth c ls ha C hP hS hl
  have hn : 64 ≤ n := C.2.1.1.2.1
  have hi6 : ∀ w ∈ u_ws RX6 TX6 17, w ∈ wsX6_cryHere := by decide +kernel
  have hl : lv_has ls 3 [(0, .ref (gA g 53))] := hl
  rw [hv] at hP
  refine lv_aload_n C.1.1 C.1.2.1 dX6_cryHere_0 rfl (lv_at hl 0 rfl) ?_
  refine a_G hS (run_V C hP hS hl.1 53 6 (Nat.lt_of_lt_of_le (by decide) hn) rfl (by decide) rfl [] (kX6_next l g n (psS w T ct fa d) (tkE (bB w T) T ct) T hT hT2 rfl (tkE_le hc)) gX6_cryHere_X6_next rfl hdX6_next rfl ⟨rfl, rfl⟩ ⟨Nat.le_of_ble_eq_true rfl, Nat.le_of_ble_eq_true rfl⟩ rfl [] rfl (Nat.le_of_ble_eq_true rfl) dX6_cryHere_1 ⟨Nat.zero_le _, Nat.zero_le _⟩) (fun H locs hP hS => ?_)
  rw [show nextT (psS w T ct fa d) T (tkE (bB w T) T ct) = psS w T (nx (bB w T) T ct) fa d from ps_next _ _ _ _ _] at hP
  refine lv_aload_n C.1.1 C.1.2.1 dX6_cryHere_4 rfl (lv_at hl 0 rfl) ?_
  refine lv_iconst (v := 5) C.1.1 C.1.2.1 dX6_cryHere_5 rfl ?_
  refine a_F hS (run_V C hP hS hl.1 53 6 (Nat.lt_of_lt_of_le (by decide) hn) rfl (by decide) rfl [.int 5] (kX6_numberHere l g n (psS w T (nx (bB w T) T ct) fa d) 5 w T (nx (bB w T) T ct) fa d rfl hT hT2 (nx_le' hc)) gX6_cryHere_X6_numberHere rfl hdX6_numberHere rfl ⟨rfl, rfl⟩ ⟨Nat.le_of_ble_eq_true rfl, Nat.le_of_ble_eq_true rfl⟩ rfl [] rfl (Nat.le_of_ble_eq_true rfl) dX6_cryHere_6 ⟨Nat.zero_le _, Nat.zero_le _⟩) (fun H locs hP hS => ?_)
  obtain ⟨q_1, hq_1⟩ : ∃ zz, zz = nhQ (bB w T) T ((nx (bB w T) T ct), fa, d) 5 := ⟨_, rfl⟩
  rw [show psQ w T (nhQ (bB w T) T ((nx (bB w T) T ct), fa, d) 5) = psS w T q_1.1 q_1.2.1 q_1.2.2 from by rw [hq_1]] at hP
  have cq_1 : q_1.1 ≤ T := by rw [hq_1]; exact nhQ_le (nx_le' hc)
  refine lv_istore_n (lv' := [(1, .int (nhV (bB w T) T (nx (bB w T) T ct) 5)), (0, .ref (gA g 53))]) C.1.1 C.1.2.1 dX6_cryHere_9 rfl hl (by decide) rfl (fun ls hl => ?_)
  refine lv_aload_n C.1.1 C.1.2.1 dX6_cryHere_10 rfl (lv_at hl 1 rfl) ?_
  refine r_get C hP 53 6 (Nat.lt_of_lt_of_le (by decide) hn) rfl (by decide) rfl hi6 12 (by decide) (List.mem_of_getElem? (i := 1) rfl) rfl (val := .int ((psS w T q_1.1 q_1.2.1 q_1.2.2).1 53 12)) rfl dX6_cryHere_11 ?_
  refine lv_topE q_1.2.1 rfl ?_
  refine lv_if_ge (tgt := 26) C.1.1 C.1.2.1 dX6_cryHere_14 (by decide) (fun c_2 => ?_) (fun c_2 => ?_)
  · skip
    refine lv_iconst (v := 0) C.1.1 C.1.2.1 dX6_cryHere_26 rfl ?_
    refine lv_istore_n (lv' := [(2, .int 0), (1, .int (nhV (bB w T) T (nx (bB w T) T ct) 5)), (0, .ref (gA g 53))]) C.1.1 C.1.2.1 dX6_cryHere_27 rfl hl (by decide) rfl (fun ls hl => ?_)
    refine lv_aload_n C.1.1 C.1.2.1 dX6_cryHere_28 rfl (lv_at hl 2 rfl) ?_
    refine r_get C hP 53 6 (Nat.lt_of_lt_of_le (by decide) hn) rfl (by decide) rfl hi6 12 (by decide) (List.mem_of_getElem? (i := 1) rfl) rfl (val := .int ((psS w T q_1.1 q_1.2.1 q_1.2.2).1 53 12)) rfl dX6_cryHere_29 ?_
    refine lv_topE q_1.2.1 rfl ?_
    refine lv_if_ge (tgt := 45) C.1.1 C.1.2.1 dX6_cryHere_32 (by decide) (fun _ => ?_) (fun c_3 => absurd c_2 c_3)
    exact t_G C rfl hP hS (by rw [cyF, ← hq_1, if_pos c_2]) dX6_cryHere_45
  · skip
    refine lv_aload_n C.1.1 C.1.2.1 dX6_cryHere_17 rfl (lv_at hl 1 rfl) ?_
    refine lv_bipush (v := 11) C.1.1 C.1.2.1 dX6_cryHere_18 rfl ?_
    refine a_F hS (run_V C hP hS hl.1 53 6 (Nat.lt_of_lt_of_le (by decide) hn) rfl (by decide) rfl [.int 11] (kX6_numberHere l g n (psS w T q_1.1 q_1.2.1 q_1.2.2) 11 w T q_1.1 q_1.2.1 q_1.2.2 rfl hT hT2 cq_1) gX6_cryHere_X6_numberHere rfl hdX6_numberHere rfl ⟨rfl, rfl⟩ ⟨Nat.le_of_ble_eq_true rfl, Nat.le_of_ble_eq_true rfl⟩ rfl [] rfl (Nat.le_of_ble_eq_true rfl) dX6_cryHere_20 ⟨Nat.zero_le _, Nat.zero_le _⟩) (fun H locs hP hS => ?_)
    obtain ⟨q_4, hq_4⟩ : ∃ zz, zz = nhQ (bB w T) T (q_1.1, q_1.2.1, q_1.2.2) 11 := ⟨_, rfl⟩
    rw [show psQ w T (nhQ (bB w T) T (q_1.1, q_1.2.1, q_1.2.2) 11) = psS w T q_4.1 q_4.2.1 q_4.2.2 from by rw [hq_4]] at hP
    have cq_4 : q_4.1 ≤ T := by rw [hq_4]; exact nhQ_le cq_1
    refine lv_goto (tgt := 27) C.1.1 C.1.2.1 dX6_cryHere_23 (by decide) ?_
    refine lv_istore_n (lv' := [(2, .int (nhV (bB w T) T q_1.1 11)), (1, .int (nhV (bB w T) T (nx (bB w T) T ct) 5)), (0, .ref (gA g 53))]) C.1.1 C.1.2.1 dX6_cryHere_27 rfl hl (by decide) rfl (fun ls hl => ?_)
    refine lv_aload_n C.1.1 C.1.2.1 dX6_cryHere_28 rfl (lv_at hl 2 rfl) ?_
    refine r_get C hP 53 6 (Nat.lt_of_lt_of_le (by decide) hn) rfl (by decide) rfl hi6 12 (by decide) (List.mem_of_getElem? (i := 1) rfl) rfl (val := .int ((psS w T q_4.1 q_4.2.1 q_4.2.2).1 53 12)) rfl dX6_cryHere_29 ?_
    refine lv_topE q_4.2.1 rfl ?_
    refine lv_if_ge (tgt := 45) C.1.1 C.1.2.1 dX6_cryHere_32 (by decide) (fun c_5 => ?_) (fun c_5 => ?_)
    · skip
      exact t_G C rfl hP hS (by rw [cyF, ← hq_1, if_neg c_2, ← hq_4, if_pos c_5]) dX6_cryHere_45
    · skip
      obtain ⟨ti, hti5, hti⟩ := nh_nat (B := (bB w T)) (T := T) (c := nx (bB w T) T ct) (fa := fa) (d := d) (y := 5) (m := 5) rfl (by rw [← hq_1]; exact c_2) (by have := nx_le' (B := (bB w T)) hc; omega) (by decide)
      rw [hti] at hl
      refine lv_aload_n C.1.1 C.1.2.1 dX6_cryHere_35 rfl (lv_at hl 2 rfl) ?_
      refine r_get C hP 53 6 (Nat.lt_of_lt_of_le (by decide) hn) rfl (by decide) rfl hi6 0 (by decide) (List.mem_of_getElem? (i := 2) rfl) rfl (val := .ref (gA g 54)) rfl dX6_cryHere_36 ?_
      refine lv_bipush (v := 7) C.1.1 C.1.2.1 dX6_cryHere_39 rfl ?_
      refine lv_iload_n C.1.1 C.1.2.1 dX6_cryHere_41 rfl (lv_at hl 1 rfl) ?_
      refine lv_iadd C.1.1 C.1.2.1 dX6_cryHere_42 ?_
      refine lv_topE (nI (7 + ti)) (nI_add 7 ti) ?_
      refine lv_iload_n C.1.1 C.1.2.1 dX6_cryHere_43 rfl (lv_at hl 0 rfl) ?_
      refine r_iast C hP hS 54 (Nat.lt_of_lt_of_le (by decide) hn) rfl (7 + ti) rfl (N := 83) rfl (by decide) (by omega) dX6_cryHere_44 (fun H locs hP hS => ?_)
      rw [show up (psS w T q_4.1 q_4.2.1 q_4.2.2) 54 (7 + ti) (nhV (bB w T) T q_1.1 11) = psS w T q_4.1 q_4.2.1 (upd q_4.2.2 (7 + ti) (nhV (bB w T) T q_1.1 11)) from ps_54 _ _ _ _ _ _ _] at hP
      exact t_G C rfl hP hS (by rw [cyF, ← hq_1, if_neg c_2, ← hq_4, if_neg c_5, hti, tn_nI (show ti < 2 ^ 31 by omega)]) dX6_cryHere_45

abbrev rmX6_residentHere : Room := { frames := 4, cells := 0, slots := 0, locals := 89 }
set_option maxHeartbeats 4000000 in
set_option maxRecDepth 100000 in
theorem kX6_residentHere (l : Launch) (g : GG) (n : Nat) (v : SV) (y : Int32) (d : Nat → Int32) (N : Nat) (hM : okM d N) (w : SV) (T ct : Nat) (fa : Int32) (hv : v = psS w T ct fa d) (hT : w.1 53 7 = nI T) (hT2 : T ≤ 120) (hc : ct ≤ T) : Met l yX6_residentHere wsX6_residentHere rmX6_residentHere (PW g n v [.ref (gA g 53), .int y]) (QG g n (psQ w T (reF (bB w T) T (ct, fa, d) y))) 0 0 (wA g n) := by
  refine Met.begin RX6 rfl (by decide) rfl (Nat.le_of_ble_eq_true rfl) ?_
  intro p e s m args below meth c ls ha C hP hS hl
  have hn : 64 ≤ n := C.2.1.1.2.1
  have hi6 : ∀ w ∈ u_ws RX6 TX6 17, w ∈ wsX6_residentHere := by decide +kernel
  have hl : lv_has ls 3 [(0, .ref (gA g 53)), (1, .int y)] := hl
  rw [hv] at hP
  have h8 := hM.1
  refine lv_aload_n C.1.1 C.1.2.1 dX6_residentHere_0 rfl (lv_at hl 0 rfl) ?_
  refine r_get C hP 53 6 (Nat.lt_of_lt_of_le (by decide) hn) rfl (by decide) rfl hi6 0 (by decide) (List.mem_of_getElem? (i := 1) rfl) rfl (val := .ref (gA g 54)) rfl dX6_residentHere_1 ?_
  refine lv_iconst (v := 0) C.1.1 C.1.2.1 dX6_residentHere_4 rfl ?_
  refine r_iald C hP 54 (Nat.lt_of_lt_of_le (by decide) hn) rfl 0 rfl (N := 83) rfl (by decide) (by omega) dX6_residentHere_5 ?_
  refine lv_topE (nI N) hM.2.1 ?_
  refine lv_bipush (v := 8) C.1.1 C.1.2.1 dX6_residentHere_6 rfl ?_
  refine lv_icmp_ne (tgt := 16) C.1.1 C.1.2.1 dX6_residentHere_8 (by decide) (fun c_1 => ?_) (fun c_1 => ?_)
  · rw [show (nI N = 8) = (N = 8) from propext (nI_eq (a := N) (b := 8) (by omega) (by omega))] at c_1
    refine lv_aload_n C.1.1 C.1.2.1 dX6_residentHere_16 rfl (lv_at hl 0 rfl) ?_
    refine a_G hS (run_V C hP hS hl.1 53 6 (Nat.lt_of_lt_of_le (by decide) hn) rfl (by decide) rfl [] (kX6_next l g n (psS w T ct fa d) (tkE (bB w T) T ct) T hT hT2 rfl (tkE_le hc)) gX6_residentHere_X6_next rfl hdX6_next rfl ⟨rfl, rfl⟩ ⟨Nat.le_of_ble_eq_true rfl, Nat.le_of_ble_eq_true rfl⟩ rfl [] rfl (Nat.le_of_ble_eq_true rfl) dX6_residentHere_17 ⟨Nat.zero_le _, Nat.zero_le _⟩) (fun H locs hP hS => ?_)
    rw [show nextT (psS w T ct fa d) T (tkE (bB w T) T ct) = psS w T (nx (bB w T) T ct) fa d from ps_next _ _ _ _ _] at hP
    refine lv_aload_n C.1.1 C.1.2.1 dX6_residentHere_20 rfl (lv_at hl 0 rfl) ?_
    refine lv_iload_n C.1.1 C.1.2.1 dX6_residentHere_21 rfl (lv_at hl 1 rfl) ?_
    refine lv_iconst (v := 0) C.1.1 C.1.2.1 dX6_residentHere_22 rfl ?_
    refine a_F hS (run_V C hP hS hl.1 53 6 (Nat.lt_of_lt_of_le (by decide) hn) rfl (by decide) rfl [.int y, .int 0] (kX6_comes l g n (psS w T (nx (bB w T) T ct) fa d) y 0 N (show okM _ N from hM) (by omega)) gX6_residentHere_X6_comes rfl hdX6_comes rfl ⟨rfl, rfl⟩ ⟨Nat.le_of_ble_eq_true rfl, Nat.le_of_ble_eq_true rfl⟩ rfl [] rfl (Nat.le_of_ble_eq_true rfl) dX6_residentHere_23 ⟨Nat.zero_le _, Nat.zero_le _⟩) (fun H locs hP hS => ?_)
    rw [show upw (psS w T (nx (bB w T) T ct) fa d) 54 (comesM ((psS w T (nx (bB w T) T ct) fa d).1 54) N y 0) = psS w T (nx (bB w T) T ct) fa (comesM (d) N y 0) from ps_w54 _ _ _ _ _ _] at hP
    refine lv_topE (nI N) hM.2.1 ?_
    refine lv_istore_n (lv' := [(2, .int (nI N)), (0, .ref (gA g 53)), (1, .int y)]) C.1.1 C.1.2.1 dX6_residentHere_26 rfl hl (by decide) rfl (fun ls hl => ?_)
    refine lv_aload_n C.1.1 C.1.2.1 dX6_residentHere_27 rfl (lv_at hl 1 rfl) ?_
    refine lv_ldc2 (v := 47) C.1.1 C.1.2.1 C.1.2.2.2.1 (C.1.2.2.2.2 _ (List.mem_of_getElem? (i := 2) rfl)) dX6_residentHere_28 ?_
    refine lv_bipush (v := 33) C.1.1 C.1.2.1 dX6_residentHere_31 rfl ?_
    refine lv_iload_n C.1.1 C.1.2.1 dX6_residentHere_33 rfl (lv_at hl 0 rfl) ?_
    refine lv_iadd C.1.1 C.1.2.1 dX6_residentHere_34 ?_
    refine lv_topE (nI (33 + N)) (nI_add 33 N) ?_
    refine lv_bipush (v := 15) C.1.1 C.1.2.1 dX6_residentHere_35 rfl ?_
    refine a_G hS (run_V C hP hS hl.1 53 6 (Nat.lt_of_lt_of_le (by decide) hn) rfl (by decide) rfl [.long 47, .int (nI (33 + N)), .int 15] (kX6_perhaps l g n (psS w T (nx (bB w T) T ct) fa (comesM (d) N y 0)) 47 (33 + N) 15 (by omega) w T (nx (bB w T) T ct) fa (comesM (d) N y 0) rfl hT hT2 (nx_le' hc)) gX6_residentHere_X6_perhaps rfl hdX6_perhaps rfl ⟨rfl, rfl⟩ ⟨Nat.le_of_ble_eq_true rfl, Nat.le_of_ble_eq_true rfl⟩ rfl [] rfl (Nat.le_of_ble_eq_true rfl) dX6_residentHere_37 ⟨Nat.zero_le _, Nat.zero_le _⟩) (fun H locs hP hS => ?_)
    obtain ⟨q_2, hq_2⟩ : ∃ zz, zz = phF (bB w T) T ((nx (bB w T) T ct), fa, (comesM (d) N y 0)) 47 (33 + N) 15 := ⟨_, rfl⟩
    rw [show psQ w T (phF (bB w T) T ((nx (bB w T) T ct), fa, (comesM (d) N y 0)) 47 (33 + N) 15) = psS w T q_2.1 q_2.2.1 q_2.2.2 from by rw [hq_2]] at hP
    have cq_2 : q_2.1 ≤ T := by rw [hq_2]; exact phF_le (nx_le' hc)
    refine lv_aload_n C.1.1 C.1.2.1 dX6_residentHere_40 rfl (lv_at hl 1 rfl) ?_
    refine lv_ldc2 (v := 12253591) C.1.1 C.1.2.1 C.1.2.2.2.1 (C.1.2.2.2.2 _ (List.mem_of_getElem? (i := 3) rfl)) dX6_residentHere_41 ?_
    refine lv_bipush (v := 41) C.1.1 C.1.2.1 dX6_residentHere_44 rfl ?_
    refine lv_iload_n C.1.1 C.1.2.1 dX6_residentHere_46 rfl (lv_at hl 0 rfl) ?_
    refine lv_iadd C.1.1 C.1.2.1 dX6_residentHere_47 ?_
    refine lv_topE (nI (41 + N)) (nI_add 41 N) ?_
    refine lv_sipush (v := 4095) C.1.1 C.1.2.1 dX6_residentHere_48 rfl ?_
    refine a_G hS (run_V C hP hS hl.1 53 6 (Nat.lt_of_lt_of_le (by decide) hn) rfl (by decide) rfl [.long 12253591, .int (nI (41 + N)), .int 4095] (kX6_perhaps l g n (psS w T q_2.1 q_2.2.1 q_2.2.2) 12253591 (41 + N) 4095 (by omega) w T q_2.1 q_2.2.1 q_2.2.2 rfl hT hT2 cq_2) gX6_residentHere_X6_perhaps rfl hdX6_perhaps rfl ⟨rfl, rfl⟩ ⟨Nat.le_of_ble_eq_true rfl, Nat.le_of_ble_eq_true rfl⟩ rfl [] rfl (Nat.le_of_ble_eq_true rfl) dX6_residentHere_51 ⟨Nat.zero_le _, Nat.zero_le _⟩) (fun H locs hP hS => ?_)
    obtain ⟨q_3, hq_3⟩ : ∃ zz, zz = phF (bB w T) T (q_2.1, q_2.2.1, q_2.2.2) 12253591 (41 + N) 4095 := ⟨_, rfl⟩
    rw [show psQ w T (phF (bB w T) T (q_2.1, q_2.2.1, q_2.2.2) 12253591 (41 + N) 4095) = psS w T q_3.1 q_3.2.1 q_3.2.2 from by rw [hq_3]] at hP
    have cq_3 : q_3.1 ≤ T := by rw [hq_3]; exact phF_le cq_2
    refine lv_aload_n C.1.1 C.1.2.1 dX6_residentHere_54 rfl (lv_at hl 1 rfl) ?_
    refine lv_ldc2 (v := 168836) C.1.1 C.1.2.1 C.1.2.2.2.1 (C.1.2.2.2.2 _ (List.mem_of_getElem? (i := 4) rfl)) dX6_residentHere_55 ?_
    refine lv_bipush (v := 49) C.1.1 C.1.2.1 dX6_residentHere_58 rfl ?_
    refine lv_iload_n C.1.1 C.1.2.1 dX6_residentHere_60 rfl (lv_at hl 0 rfl) ?_
    refine lv_iadd C.1.1 C.1.2.1 dX6_residentHere_61 ?_
    refine lv_topE (nI (49 + N)) (nI_add 49 N) ?_
    refine lv_bipush (v := 99) C.1.1 C.1.2.1 dX6_residentHere_62 rfl ?_
    refine a_G hS (run_V C hP hS hl.1 53 6 (Nat.lt_of_lt_of_le (by decide) hn) rfl (by decide) rfl [.long 168836, .int (nI (49 + N)), .int 99] (kX6_perhaps l g n (psS w T q_3.1 q_3.2.1 q_3.2.2) 168836 (49 + N) 99 (by omega) w T q_3.1 q_3.2.1 q_3.2.2 rfl hT hT2 cq_3) gX6_residentHere_X6_perhaps rfl hdX6_perhaps rfl ⟨rfl, rfl⟩ ⟨Nat.le_of_ble_eq_true rfl, Nat.le_of_ble_eq_true rfl⟩ rfl [] rfl (Nat.le_of_ble_eq_true rfl) dX6_residentHere_64 ⟨Nat.zero_le _, Nat.zero_le _⟩) (fun H locs hP hS => ?_)
    obtain ⟨q_4, hq_4⟩ : ∃ zz, zz = phF (bB w T) T (q_3.1, q_3.2.1, q_3.2.2) 168836 (49 + N) 99 := ⟨_, rfl⟩
    rw [show psQ w T (phF (bB w T) T (q_3.1, q_3.2.1, q_3.2.2) 168836 (49 + N) 99) = psS w T q_4.1 q_4.2.1 q_4.2.2 from by rw [hq_4]] at hP
    have cq_4 : q_4.1 ≤ T := by rw [hq_4]; exact phF_le cq_3
    refine lv_aload_n C.1.1 C.1.2.1 dX6_residentHere_67 rfl (lv_at hl 1 rfl) ?_
    refine r_get C hP 53 6 (Nat.lt_of_lt_of_le (by decide) hn) rfl (by decide) rfl hi6 12 (by decide) (List.mem_of_getElem? (i := 5) rfl) rfl (val := .int ((psS w T q_4.1 q_4.2.1 q_4.2.2).1 53 12)) rfl dX6_residentHere_68 ?_
    refine lv_topE q_4.2.1 rfl ?_
    refine lv_if_ge (tgt := 95) C.1.1 C.1.2.1 dX6_residentHere_71 (by decide) (fun c_5 => ?_) (fun c_5 => ?_)
    · skip
      exact t_G C rfl hP hS (by rw [reF, nI_clampM hM, if_neg c_1, ← hq_2, ← hq_3, ← hq_4, reT, if_pos c_5]) dX6_residentHere_95
    · skip
      refine lv_aload_n C.1.1 C.1.2.1 dX6_residentHere_74 rfl (lv_at hl 1 rfl) ?_
      refine lv_ldc2 (v := 36502) C.1.1 C.1.2.1 C.1.2.2.2.1 (C.1.2.2.2.2 _ (List.mem_of_getElem? (i := 6) rfl)) dX6_residentHere_75 ?_
      refine a_B hS (run_V C hP hS hl.1 53 6 (Nat.lt_of_lt_of_le (by decide) hn) rfl (by decide) rfl [.long 36502] (kX6_isWord l g n (psS w T q_4.1 q_4.2.1 q_4.2.2) 36502 w T q_4.1 q_4.2.1 q_4.2.2 rfl hT hT2 cq_4) gX6_residentHere_X6_isWord rfl hdX6_isWord rfl ⟨rfl, rfl⟩ ⟨Nat.le_of_ble_eq_true rfl, Nat.le_of_ble_eq_true rfl⟩ rfl [] rfl (Nat.le_of_ble_eq_true rfl) dX6_residentHere_78 ⟨Nat.zero_le _, Nat.zero_le _⟩) (fun b_6 H locs hP hS => ?_) (fun b_6 H locs hP hS => ?_)
      · skip
        refine lv_if_eq (tgt := 95) C.1.1 C.1.2.1 dX6_residentHere_81 (by decide) (fun c_7 => absurd c_7 (by decide)) (fun _ => ?_)
        refine lv_aload_n C.1.1 C.1.2.1 dX6_residentHere_84 rfl (lv_at hl 1 rfl) ?_
        refine lv_iload_n C.1.1 C.1.2.1 dX6_residentHere_85 rfl (lv_at hl 0 rfl) ?_
        refine lv_iconst (v := 5) C.1.1 C.1.2.1 dX6_residentHere_86 rfl ?_
        refine lv_iconst (v := 1) C.1.1 C.1.2.1 dX6_residentHere_87 rfl ?_
        refine a_G hS (run_V C hP hS hl.1 53 6 (Nat.lt_of_lt_of_le (by decide) hn) rfl (by decide) rfl [.int (nI N), .int 5, .int 1] (kX6_sets l g n (psS w T q_4.1 q_4.2.1 q_4.2.2) N 5 1 (by omega) (by omega)) gX6_residentHere_X6_sets rfl hdX6_sets rfl ⟨rfl, rfl⟩ ⟨Nat.le_of_ble_eq_true rfl, Nat.le_of_ble_eq_true rfl⟩ rfl [] rfl (Nat.le_of_ble_eq_true rfl) dX6_residentHere_88 ⟨Nat.zero_le _, Nat.zero_le _⟩) (fun H locs hP hS => ?_)
        rw [show up (psS w T q_4.1 q_4.2.1 q_4.2.2) 54 (25 + 8 * 5 + N) 1 = psS w T q_4.1 q_4.2.1 (upd q_4.2.2 (25 + 8 * 5 + N) 1) from ps_54 _ _ _ _ _ _ _] at hP
        refine lv_aload_n C.1.1 C.1.2.1 dX6_residentHere_91 rfl (lv_at hl 1 rfl) ?_
        refine a_G hS (run_V C hP hS hl.1 53 6 (Nat.lt_of_lt_of_le (by decide) hn) rfl (by decide) rfl [] (kX6_next l g n (psS w T q_4.1 q_4.2.1 (upd q_4.2.2 (25 + 8 * 5 + N) 1)) (tkE (bB w T) T q_4.1) T hT hT2 rfl (tkE_le cq_4)) gX6_residentHere_X6_next rfl hdX6_next rfl ⟨rfl, rfl⟩ ⟨Nat.le_of_ble_eq_true rfl, Nat.le_of_ble_eq_true rfl⟩ rfl [] rfl (Nat.le_of_ble_eq_true rfl) dX6_residentHere_92 ⟨Nat.zero_le _, Nat.zero_le _⟩) (fun H locs hP hS => ?_)
        rw [show nextT (psS w T q_4.1 q_4.2.1 (upd q_4.2.2 (25 + 8 * 5 + N) 1)) T (tkE (bB w T) T q_4.1) = psS w T (nx (bB w T) T q_4.1) q_4.2.1 (upd q_4.2.2 (25 + 8 * 5 + N) 1) from ps_next _ _ _ _ _] at hP
        exact t_G C rfl hP hS (by rw [reF, nI_clampM hM, if_neg c_1, ← hq_2, ← hq_3, ← hq_4, reT, if_neg c_5, cif_pos b_6]) dX6_residentHere_95
      · skip
        refine lv_if_eq (tgt := 95) C.1.1 C.1.2.1 dX6_residentHere_81 (by decide) (fun _ => ?_) (fun c_8 => absurd c_8 (by decide))
        exact t_G C rfl hP hS (by rw [reF, nI_clampM hM, if_neg c_1, ← hq_2, ← hq_3, ← hq_4, reT, if_neg c_5, cif_neg b_6]) dX6_residentHere_95
  · rw [show (nI N = 8) = (N = 8) from propext (nI_eq (a := N) (b := 8) (by omega) (by omega))] at c_1
    refine lv_aload_n C.1.1 C.1.2.1 dX6_residentHere_11 rfl (lv_at hl 0 rfl) ?_
    refine a_G hS (run_V C hP hS hl.1 53 6 (Nat.lt_of_lt_of_le (by decide) hn) rfl (by decide) rfl [] (kX6_wrongHere l g n (psS w T ct fa d) w T ct fa d rfl hT hT2 hc) gX6_residentHere_X6_wrongHere rfl hdX6_wrongHere rfl ⟨rfl, rfl⟩ ⟨Nat.le_of_ble_eq_true rfl, Nat.le_of_ble_eq_true rfl⟩ rfl [] rfl (Nat.le_of_ble_eq_true rfl) dX6_residentHere_12 ⟨Nat.zero_le _, Nat.zero_le _⟩) (fun H locs hP hS => ?_)
    exact t_G C rfl hP hS (by rw [reF, nI_clampM hM, if_pos c_1]) dX6_residentHere_15

