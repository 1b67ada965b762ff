abbrev rmX3_tokenBegunBy : Room := { frames := 0, cells := 0, slots := 0, locals := 0 }
set_option maxHeartbeats 4000000 in
set_option maxRecDepth 100000 in
theorem kX3_tokenBegunBy (l : Launch) (g : GG) (n : Nat) (v : SV) (x : Int32) : Met l yX3_tokenBegunBy wsX3_tokenBegunBy rmX3_tokenBegunBy (PW g n v [.int x]) (QF g n (tkB x) v) 0 0 (wA g n) := by
  refine Met.begin RX3 rfl (by decide) rfl (Nat.le_of_ble_eq_true rfl) ?_
  intro p e s m args below meth c ls ha C hP hS hl
  have hn : 64 ≤ n := C.2.1.1.2.1
  have hl : lv_has ls 1 [(0, .int x)] := hl
  refine lv_iload_n C.1.1 C.1.2.1 dX3_tokenBegunBy_0 rfl (lv_at hl 0 rfl) ?_
  refine lv_bipush (v := 97) C.1.1 C.1.2.1 dX3_tokenBegunBy_1 rfl ?_
  refine lv_icmp_lt (tgt := 14) C.1.1 C.1.2.1 dX3_tokenBegunBy_3 (by decide) (fun c_1 => ?_) (fun c_1 => ?_)
  · skip
    refine lv_iload_n C.1.1 C.1.2.1 dX3_tokenBegunBy_14 rfl (lv_at hl 0 rfl) ?_
    refine lv_bipush (v := 48) C.1.1 C.1.2.1 dX3_tokenBegunBy_15 rfl ?_
    refine lv_icmp_lt (tgt := 28) C.1.1 C.1.2.1 dX3_tokenBegunBy_17 (by decide) (fun c_2 => ?_) (fun c_2 => ?_)
    · skip
      refine lv_iload_n C.1.1 C.1.2.1 dX3_tokenBegunBy_28 rfl (lv_at hl 0 rfl) ?_
      refine lv_bipush (v := 59) C.1.1 C.1.2.1 dX3_tokenBegunBy_29 rfl ?_
      refine lv_icmp_ne (tgt := 38) C.1.1 C.1.2.1 dX3_tokenBegunBy_31 (by decide) (fun c_3 => ?_) (fun c_3 => ?_)
      · skip
        refine lv_iconst (v := 4) C.1.1 C.1.2.1 dX3_tokenBegunBy_38 rfl ?_
        exact t_F C rfl hP hS (by rw [tkB, if_neg (show ¬ (97 ≤ x ∧ x ≤ 122) from by first | exact fun h => fa_lt_nle (b := 97) (a := x) (by assumption) h.1 | exact fun h => fa_lt_nle (b := x) (a := 122) (by assumption) h.2), if_neg (show ¬ (48 ≤ x ∧ x ≤ 57) from by first | exact fun h => fa_lt_nle (b := 48) (a := x) (by assumption) h.1 | exact fun h => fa_lt_nle (b := x) (a := 57) (by assumption) h.2), if_neg (by assumption)]) rfl dX3_tokenBegunBy_39
      · skip
        refine lv_iconst (v := 3) C.1.1 C.1.2.1 dX3_tokenBegunBy_34 rfl ?_
        refine lv_goto (tgt := 39) C.1.1 C.1.2.1 dX3_tokenBegunBy_35 (by decide) ?_
        exact t_F C rfl hP hS (by rw [tkB, if_neg (show ¬ (97 ≤ x ∧ x ≤ 122) from by first | exact fun h => fa_lt_nle (b := 97) (a := x) (by assumption) h.1 | exact fun h => fa_lt_nle (b := x) (a := 122) (by assumption) h.2), if_neg (show ¬ (48 ≤ x ∧ x ≤ 57) from by first | exact fun h => fa_lt_nle (b := 48) (a := x) (by assumption) h.1 | exact fun h => fa_lt_nle (b := x) (a := 57) (by assumption) h.2), if_pos (by assumption)]) rfl dX3_tokenBegunBy_39
    · skip
      refine lv_iload_n C.1.1 C.1.2.1 dX3_tokenBegunBy_20 rfl (lv_at hl 0 rfl) ?_
      refine lv_bipush (v := 57) C.1.1 C.1.2.1 dX3_tokenBegunBy_21 rfl ?_
      refine lv_icmp_gt (tgt := 28) C.1.1 C.1.2.1 dX3_tokenBegunBy_23 (by decide) (fun c_4 => ?_) (fun c_4 => ?_)
      · skip
        refine lv_iload_n C.1.1 C.1.2.1 dX3_tokenBegunBy_28 rfl (lv_at hl 0 rfl) ?_
        refine lv_bipush (v := 59) C.1.1 C.1.2.1 dX3_tokenBegunBy_29 rfl ?_
        refine lv_icmp_ne (tgt := 38) C.1.1 C.1.2.1 dX3_tokenBegunBy_31 (by decide) (fun c_5 => ?_) (fun c_5 => ?_)
        · skip
          refine lv_iconst (v := 4) C.1.1 C.1.2.1 dX3_tokenBegunBy_38 rfl ?_
          exact t_F C rfl hP hS (by rw [tkB, if_neg (show ¬ (97 ≤ x ∧ x ≤ 122) from by first | exact fun h => fa_lt_nle (b := 97) (a := x) (by assumption) h.1 | exact fun h => fa_lt_nle (b := x) (a := 122) (by assumption) h.2), if_neg (show ¬ (48 ≤ x ∧ x ≤ 57) from by first | exact fun h => fa_lt_nle (b := 48) (a := x) (by assumption) h.1 | exact fun h => fa_lt_nle (b := x) (a := 57) (by assumption) h.2), if_neg (by assumption)]) rfl dX3_tokenBegunBy_39
        · skip
          refine lv_iconst (v := 3) C.1.1 C.1.2.1 dX3_tokenBegunBy_34 rfl ?_
          refine lv_goto (tgt := 39) C.1.1 C.1.2.1 dX3_tokenBegunBy_35 (by decide) ?_
          exact t_F C rfl hP hS (by rw [tkB, if_neg (show ¬ (97 ≤ x ∧ x ≤ 122) from by first | exact fun h => fa_lt_nle (b := 97) (a := x) (by assumption) h.1 | exact fun h => fa_lt_nle (b := x) (a := 122) (by assumption) h.2), if_neg (show ¬ (48 ≤ x ∧ x ≤ 57) from by first | exact fun h => fa_lt_nle (b := 48) (a := x) (by assumption) h.1 | exact fun h => fa_lt_nle (b := x) (a := 57) (by assumption) h.2), if_pos (by assumption)]) rfl dX3_tokenBegunBy_39
      · skip
        refine lv_iconst (v := 2) C.1.1 C.1.2.1 dX3_tokenBegunBy_26 rfl ?_
        exact t_F C rfl hP hS (by rw [tkB, if_neg (show ¬ (97 ≤ x ∧ x ≤ 122) from by first | exact fun h => fa_lt_nle (b := 97) (a := x) (by assumption) h.1 | exact fun h => fa_lt_nle (b := x) (a := 122) (by assumption) h.2), if_pos ⟨fa_nlt (by assumption), fa_nlt (by assumption)⟩]) rfl dX3_tokenBegunBy_27
  · skip
    refine lv_iload_n C.1.1 C.1.2.1 dX3_tokenBegunBy_6 rfl (lv_at hl 0 rfl) ?_
    refine lv_bipush (v := 122) C.1.1 C.1.2.1 dX3_tokenBegunBy_7 rfl ?_
    refine lv_icmp_gt (tgt := 14) C.1.1 C.1.2.1 dX3_tokenBegunBy_9 (by decide) (fun c_6 => ?_) (fun c_6 => ?_)
    · skip
      refine lv_iload_n C.1.1 C.1.2.1 dX3_tokenBegunBy_14 rfl (lv_at hl 0 rfl) ?_
      refine lv_bipush (v := 48) C.1.1 C.1.2.1 dX3_tokenBegunBy_15 rfl ?_
      refine lv_icmp_lt (tgt := 28) C.1.1 C.1.2.1 dX3_tokenBegunBy_17 (by decide) (fun c_7 => ?_) (fun c_7 => ?_)
      · skip
        refine lv_iload_n C.1.1 C.1.2.1 dX3_tokenBegunBy_28 rfl (lv_at hl 0 rfl) ?_
        refine lv_bipush (v := 59) C.1.1 C.1.2.1 dX3_tokenBegunBy_29 rfl ?_
        refine lv_icmp_ne (tgt := 38) C.1.1 C.1.2.1 dX3_tokenBegunBy_31 (by decide) (fun c_8 => ?_) (fun c_8 => ?_)
        · skip
          refine lv_iconst (v := 4) C.1.1 C.1.2.1 dX3_tokenBegunBy_38 rfl ?_
          exact t_F C rfl hP hS (by rw [tkB, if_neg (show ¬ (97 ≤ x ∧ x ≤ 122) from by first | exact fun h => fa_lt_nle (b := 97) (a := x) (by assumption) h.1 | exact fun h => fa_lt_nle (b := x) (a := 122) (by assumption) h.2), if_neg (show ¬ (48 ≤ x ∧ x ≤ 57) from by first | exact fun h => fa_lt_nle (b := 48) (a := x) (by assumption) h.1 | exact fun h => fa_lt_nle (b := x) (a := 57) (by assumption) h.2), if_neg (by assumption)]) rfl dX3_tokenBegunBy_39
        · skip
          refine lv_iconst (v := 3) C.1.1 C.1.2.1 dX3_tokenBegunBy_34 rfl ?_
          refine lv_goto (tgt := 39) C.1.1 C.1.2.1 dX3_tokenBegunBy_35 (by decide) ?_
          exact t_F C rfl hP hS (by rw [tkB, if_neg (show ¬ (97 ≤ x ∧ x ≤ 122) from by first | exact fun h => fa_lt_nle (b := 97) (a := x) (by assumption) h.1 | exact fun h => fa_lt_nle (b := x) (a := 122) (by assumption) h.2), if_neg (show ¬ (48 ≤ x ∧ x ≤ 57) from by first | exact fun h => fa_lt_nle (b := 48) (a := x) (by assumption) h.1 | exact fun h => fa_lt_nle (b := x) (a := 57) (by assumption) h.2), if_pos (by assumption)]) rfl dX3_tokenBegunBy_39
      · skip
        refine lv_iload_n C.1.1 C.1.2.1 dX3_tokenBegunBy_20 rfl (lv_at hl 0 rfl) ?_
        refine lv_bipush (v := 57) C.1.1 C.1.2.1 dX3_tokenBegunBy_21 rfl ?_
        refine lv_icmp_gt (tgt := 28) C.1.1 C.1.2.1 dX3_tokenBegunBy_23 (by decide) (fun c_9 => ?_) (fun c_9 => ?_)
        · skip
          refine lv_iload_n C.1.1 C.1.2.1 dX3_tokenBegunBy_28 rfl (lv_at hl 0 rfl) ?_
          refine lv_bipush (v := 59) C.1.1 C.1.2.1 dX3_tokenBegunBy_29 rfl ?_
          refine lv_icmp_ne (tgt := 38) C.1.1 C.1.2.1 dX3_tokenBegunBy_31 (by decide) (fun c_10 => ?_) (fun c_10 => ?_)
          · skip
            refine lv_iconst (v := 4) C.1.1 C.1.2.1 dX3_tokenBegunBy_38 rfl ?_
            exact t_F C rfl hP hS (by rw [tkB, if_neg (show ¬ (97 ≤ x ∧ x ≤ 122) from by first | exact fun h => fa_lt_nle (b := 97) (a := x) (by assumption) h.1 | exact fun h => fa_lt_nle (b := x) (a := 122) (by assumption) h.2), if_neg (show ¬ (48 ≤ x ∧ x ≤ 57) from by first | exact fun h => fa_lt_nle (b := 48) (a := x) (by assumption) h.1 | exact fun h => fa_lt_nle (b := x) (a := 57) (by assumption) h.2), if_neg (by assumption)]) rfl dX3_tokenBegunBy_39
          · skip
            refine lv_iconst (v := 3) C.1.1 C.1.2.1 dX3_tokenBegunBy_34 rfl ?_
            refine lv_goto (tgt := 39) C.1.1 C.1.2.1 dX3_tokenBegunBy_35 (by decide) ?_
            exact t_F C rfl hP hS (by rw [tkB, if_neg (show ¬ (97 ≤ x ∧ x ≤ 122) from by first | exact fun h => fa_lt_nle (b := 97) (a := x) (by assumption) h.1 | exact fun h => fa_lt_nle (b := x) (a := 122) (by assumption) h.2), if_neg (show ¬ (48 ≤ x ∧ x ≤ 57) from by first | exact fun h => fa_lt_nle (b := 48) (a := x) (by assumption) h.1 | exact fun h => fa_lt_nle (b := x) (a := 57) (by assumption) h.2), if_pos (by assumption)]) rfl dX3_tokenBegunBy_39
        · skip
          refine lv_iconst (v := 2) C.1.1 C.1.2.1 dX3_tokenBegunBy_26 rfl ?_
          exact t_F C rfl hP hS (by rw [tkB, if_neg (show ¬ (97 ≤ x ∧ x ≤ 122) from by first | exact fun h => fa_lt_nle (b := 97) (a := x) (by assumption) h.1 | exact fun h => fa_lt_nle (b := x) (a := 122) (by assumption) h.2), if_pos ⟨fa_nlt (by assumption), fa_nlt (by assumption)⟩]) rfl dX3_tokenBegunBy_27
    · skip
      refine lv_iconst (v := 1) C.1.1 C.1.2.1 dX3_tokenBegunBy_12 rfl ?_
      exact t_F C rfl hP hS (by rw [tkB, if_pos ⟨fa_nlt (by assumption), fa_nlt (by assumption)⟩]) rfl dX3_tokenBegunBy_13

abbrev rmX3_readNext : Room := { frames := 1, cells := 0, slots := 0, locals := 24 }
set_option maxHeartbeats 4000000 in
set_option maxRecDepth 100000 in
theorem kX3_readNext (l : Launch) (g : GG) (n : Nat) (v : SV) (B : Nat → Int32) (T : Nat) (hT : T ≤ 120) (hL : v.1 41 1 = nI T) (hB : ∀ j, j < T → v.1 42 j = B j) (hB1 : ∀ j, T ≤ j → B j = -1) (a : Nat) (haT : a ≤ T) (hn5 : v.1 41 5 = nI a) : Met l yX3_readNext wsX3_readNext rmX3_readNext (PW g n v [.ref (gA g 41)]) (QG g n (ctV v B T (skp B T a))) 0 0 (wA g n) := by
  refine Met.begin RX3 rfl (by decide) rfl (Nat.le_of_ble_eq_true rfl) ?_
  intro p e s m args below meth c ls ha C hP hS hl
  have hn : 64 ≤ n := C.2.1.1.2.1
  have hi3 : ∀ w ∈ u_ws RX3 TX3 6, w ∈ wsX3_readNext := by decide +kernel
  have hl : lv_has ls 1 [(0, .ref (gA g 41))] := hl
  obtain ⟨t0, ht0⟩ : ∃ z, z = v.1 41 2 := ⟨_, rfl⟩
  obtain ⟨s0, hs0⟩ : ∃ z, z = v.1 41 3 := ⟨_, rfl⟩
  obtain ⟨v0, hv0⟩ : ∃ z, z = v.1 41 4 := ⟨_, rfl⟩
  have hself : tqV v t0 s0 v0 (nI a) = v := by rw [ht0, hs0, hv0]; exact tq_self hn5
  rw [← hself] at hP
  have lp_0 : ∀ (k_0 i : Nat), i ≤ T → T + 1 ≤ i + k_0 → ∀ (H : Heap) (locs : List Loc) (ls : Array Slot), (a ≤ i) → (∀ t, a ≤ t → t < i → B t = 32) → va_P g.1 vwCl (wl g n (tqV v t0 s0 v0 (nI i))) H → va_S (wA g n) s.heap H locs → lv_has ls 1 [(0, .ref (gA g 41))] → W p l e rmX3_readNext s m args below meth c H locs 0 0 (MQ below (QG g n (ctV v B T (skp B T a))) args s 0 0 (wA g n)) (F0 m 0 ls []) := by
    clear hP hS hl
    intro k_0
    induction k_0 with
    | zero => exact fun i h1 h2 => absurd h2 (by omega)
    | succ k_0 ih_0 =>
      intro i hi_0 hk_0 H locs ls hai hsp hP hS hl
      refine lv_aload_n C.1.1 C.1.2.1 dX3_readNext_0 rfl (lv_at hl 0 rfl) ?_
      refine r_get C hP 41 3 (Nat.lt_of_lt_of_le (by decide) hn) rfl (by decide) rfl hi3 5 (by decide) (List.mem_of_getElem? (i := 1) rfl) rfl (val := .int ((tqV v t0 s0 v0 (nI i)).1 41 5)) rfl dX3_readNext_1 ?_
      refine lv_topE (nI i) (congrFun (tq_row _ _ _ _ _) _) ?_
      refine lv_aload_n C.1.1 C.1.2.1 dX3_readNext_4 rfl (lv_at hl 0 rfl) ?_
      refine r_get C hP 41 3 (Nat.lt_of_lt_of_le (by decide) hn) rfl (by decide) rfl hi3 1 (by decide) (List.mem_of_getElem? (i := 2) rfl) rfl (val := .int ((tqV v t0 s0 v0 (nI i)).1 41 1)) rfl dX3_readNext_5 ?_
      refine lv_topE (nI T) ((congrFun (tq_row _ _ _ _ _) _).trans hL) ?_
      refine lv_icmp_ge (tgt := 38) C.1.1 C.1.2.1 dX3_readNext_8 (by decide) (fun c_1 => ?_) (fun c_1 => ?_)
      · rw [show (nI T ≤ nI i) = (T ≤ i) from propext (nI_leI (a := T) (b := i) (by omega) (by omega))] at c_1
        have hiT : i = T := by omega
        have hsk : skp B T a = i := skp_eq hsp (by rw [hB1 i (by omega)]; decide) (by omega) hai
        refine lv_aload_n C.1.1 C.1.2.1 dX3_readNext_38 rfl (lv_at hl 0 rfl) ?_
        refine lv_aload_n C.1.1 C.1.2.1 dX3_readNext_39 rfl (lv_at hl 0 rfl) ?_
        refine r_get C hP 41 3 (Nat.lt_of_lt_of_le (by decide) hn) rfl (by decide) rfl hi3 5 (by decide) (List.mem_of_getElem? (i := 1) rfl) rfl (val := .int ((tqV v t0 s0 v0 (nI i)).1 41 5)) rfl dX3_readNext_40 ?_
        refine lv_topE (nI i) (congrFun (tq_row _ _ _ _ _) _) ?_
        refine r_put C hP hS 41 3 (Nat.lt_of_lt_of_le (by decide) hn) rfl (by decide) rfl hi3 tyX3 tyX3_ok nmX3 3 (by decide) (List.mem_of_getElem? (i := 4) rfl) rfl rfl rfl rfl rfl (Nat.le_of_ble_eq_true rfl) dX3_readNext_43 (fun H locs hP hS => ?_)
        rw [show up (tqV v t0 s0 v0 (nI i)) 41 3 (nI i) = tqV v t0 (nI i) v0 (nI i) from tq_3 _ _ _ _ _ _] at hP
        refine lv_aload_n C.1.1 C.1.2.1 dX3_readNext_46 rfl (lv_at hl 0 rfl) ?_
        refine lv_iconst (v := 0) C.1.1 C.1.2.1 dX3_readNext_47 rfl ?_
        refine r_put C hP hS 41 3 (Nat.lt_of_lt_of_le (by decide) hn) rfl (by decide) rfl hi3 tyX3 tyX3_ok nmX3 4 (by decide) (List.mem_of_getElem? (i := 5) rfl) rfl rfl rfl rfl rfl (Nat.le_of_ble_eq_true rfl) dX3_readNext_48 (fun H locs hP hS => ?_)
        rw [show up (tqV v t0 (nI i) v0 (nI i)) 41 4 0 = tqV v t0 (nI i) 0 (nI i) from tq_4 _ _ _ _ _ _] at hP
        refine lv_aload_n C.1.1 C.1.2.1 dX3_readNext_51 rfl (lv_at hl 0 rfl) ?_
        refine lv_aload_n C.1.1 C.1.2.1 dX3_readNext_52 rfl (lv_at hl 0 rfl) ?_
        refine r_get C hP 41 3 (Nat.lt_of_lt_of_le (by decide) hn) rfl (by decide) rfl hi3 5 (by decide) (List.mem_of_getElem? (i := 1) rfl) rfl (val := .int ((tqV v t0 (nI i) 0 (nI i)).1 41 5)) rfl dX3_readNext_53 ?_
        refine lv_topE (nI i) (congrFun (tq_row _ _ _ _ _) _) ?_
        refine lv_aload_n C.1.1 C.1.2.1 dX3_readNext_56 rfl (lv_at hl 0 rfl) ?_
        refine r_get C hP 41 3 (Nat.lt_of_lt_of_le (by decide) hn) rfl (by decide) rfl hi3 1 (by decide) (List.mem_of_getElem? (i := 2) rfl) rfl (val := .int ((tqV v t0 (nI i) 0 (nI i)).1 41 1)) rfl dX3_readNext_57 ?_
        refine lv_topE (nI T) ((congrFun (tq_row _ _ _ _ _) _).trans hL) ?_
        refine lv_icmp_ge (tgt := 78) C.1.1 C.1.2.1 dX3_readNext_60 (by decide) (fun c_4 => ?_) (fun c_4 => ?_)
        · rw [show (nI T ≤ nI i) = (T ≤ i) from propext (nI_leI (a := T) (b := i) (by omega) (by omega))] at c_4
          refine lv_iconst (v := 0) C.1.1 C.1.2.1 dX3_readNext_78 rfl ?_
          refine r_put C hP hS 41 3 (Nat.lt_of_lt_of_le (by decide) hn) rfl (by decide) rfl hi3 tyX3 tyX3_ok nmX3 2 (by decide) (List.mem_of_getElem? (i := 6) rfl) rfl rfl rfl rfl rfl (Nat.le_of_ble_eq_true rfl) dX3_readNext_79 (fun H locs hP hS => ?_)
          rw [show up (tqV v t0 (nI i) 0 (nI i)) 41 2 0 = tqV v 0 (nI i) 0 (nI i) from tq_2 _ _ _ _ _ _] at hP
          refine lv_aload_n C.1.1 C.1.2.1 dX3_readNext_82 rfl (lv_at hl 0 rfl) ?_
          refine r_get C hP 41 3 (Nat.lt_of_lt_of_le (by decide) hn) rfl (by decide) rfl hi3 2 (by decide) (List.mem_of_getElem? (i := 6) rfl) rfl (val := .int ((tqV v 0 (nI i) 0 (nI i)).1 41 2)) rfl dX3_readNext_83 ?_
          refine lv_topE 0 (congrFun (tq_row _ _ _ _ _) _) ?_
          refine lv_iconst (v := 3) C.1.1 C.1.2.1 dX3_readNext_86 rfl ?_
          refine lv_icmp_eq (tgt := 98) C.1.1 C.1.2.1 dX3_readNext_87 (by decide) (fun c_6 => absurd c_6 (by decide)) (fun _ => ?_)
          refine lv_aload_n C.1.1 C.1.2.1 dX3_readNext_90 rfl (lv_at hl 0 rfl) ?_
          refine r_get C hP 41 3 (Nat.lt_of_lt_of_le (by decide) hn) rfl (by decide) rfl hi3 2 (by decide) (List.mem_of_getElem? (i := 6) rfl) rfl (val := .int ((tqV v 0 (nI i) 0 (nI i)).1 41 2)) rfl dX3_readNext_91 ?_
          refine lv_topE 0 (congrFun (tq_row _ _ _ _ _) _) ?_
          refine lv_iconst (v := 4) C.1.1 C.1.2.1 dX3_readNext_94 rfl ?_
          refine lv_icmp_ne (tgt := 109) C.1.1 C.1.2.1 dX3_readNext_95 (by decide) (fun _ => ?_) (fun c_7 => absurd c_7 (by decide))
          refine lv_aload_n C.1.1 C.1.2.1 dX3_readNext_109 rfl (lv_at hl 0 rfl) ?_
          refine r_get C hP 41 3 (Nat.lt_of_lt_of_le (by decide) hn) rfl (by decide) rfl hi3 5 (by decide) (List.mem_of_getElem? (i := 1) rfl) rfl (val := .int ((tqV v 0 (nI i) 0 (nI i)).1 41 5)) rfl dX3_readNext_110 ?_
          refine lv_topE (nI i) (congrFun (tq_row _ _ _ _ _) _) ?_
          refine lv_aload_n C.1.1 C.1.2.1 dX3_readNext_113 rfl (lv_at hl 0 rfl) ?_
          refine r_get C hP 41 3 (Nat.lt_of_lt_of_le (by decide) hn) rfl (by decide) rfl hi3 1 (by decide) (List.mem_of_getElem? (i := 2) rfl) rfl (val := .int ((tqV v 0 (nI i) 0 (nI i)).1 41 1)) rfl dX3_readNext_114 ?_
          refine lv_topE (nI T) ((congrFun (tq_row _ _ _ _ _) _).trans hL) ?_
          refine lv_icmp_ge (tgt := 190) C.1.1 C.1.2.1 dX3_readNext_117 (by decide) (fun c_8 => ?_) (fun c_8 => ?_)
          · rw [show (nI T ≤ nI i) = (T ≤ i) from propext (nI_leI (a := T) (b := i) (by omega) (by omega))] at c_8
            exact t_G C rfl hP hS (by rw [hsk, ct_end hiT]) dX3_readNext_190
          · rw [show (nI T ≤ nI i) = (T ≤ i) from propext (nI_leI (a := T) (b := i) (by omega) (by omega))] at c_8
            exact absurd c_8 (by omega)
        · rw [show (nI T ≤ nI i) = (T ≤ i) from propext (nI_leI (a := T) (b := i) (by omega) (by omega))] at c_4
          exact absurd c_4 (by omega)
      · rw [show (nI T ≤ nI i) = (T ≤ i) from propext (nI_leI (a := T) (b := i) (by omega) (by omega))] at c_1
        refine lv_aload_n C.1.1 C.1.2.1 dX3_readNext_11 rfl (lv_at hl 0 rfl) ?_
        refine r_get C hP 41 3 (Nat.lt_of_lt_of_le (by decide) hn) rfl (by decide) rfl hi3 0 (by decide) (List.mem_of_getElem? (i := 3) rfl) rfl (val := .ref (gA g 42)) rfl dX3_readNext_12 ?_
        refine lv_aload_n C.1.1 C.1.2.1 dX3_readNext_15 rfl (lv_at hl 0 rfl) ?_
        refine r_get C hP 41 3 (Nat.lt_of_lt_of_le (by decide) hn) rfl (by decide) rfl hi3 5 (by decide) (List.mem_of_getElem? (i := 1) rfl) rfl (val := .int ((tqV v t0 s0 v0 (nI i)).1 41 5)) rfl dX3_readNext_16 ?_
        refine lv_topE (nI i) (congrFun (tq_row _ _ _ _ _) _) ?_
        refine r_bald C hP 42 (Nat.lt_of_lt_of_le (by decide) hn) rfl i rfl (N := 120) rfl rfl (by omega) dX3_readNext_19 ?_
        refine lv_topE (B i) ((congrFun (tq_ne _ _ _ _ _ (by decide)) _).trans (hB i (by omega))) ?_
        refine lv_bipush (v := 32) C.1.1 C.1.2.1 dX3_readNext_20 rfl ?_
        refine lv_icmp_ne (tgt := 38) C.1.1 C.1.2.1 dX3_readNext_22 (by decide) (fun c_9 => ?_) (fun c_9 => ?_)
        · skip
          have hiT : ¬ i = T := by omega
          have hsk : skp B T a = i := skp_eq hsp c_9 (by omega) hai
          refine lv_aload_n C.1.1 C.1.2.1 dX3_readNext_38 rfl (lv_at hl 0 rfl) ?_
          refine lv_aload_n C.1.1 C.1.2.1 dX3_readNext_39 rfl (lv_at hl 0 rfl) ?_
          refine r_get C hP 41 3 (Nat.lt_of_lt_of_le (by decide) hn) rfl (by decide) rfl hi3 5 (by decide) (List.mem_of_getElem? (i := 1) rfl) rfl (val := .int ((tqV v t0 s0 v0 (nI i)).1 41 5)) rfl dX3_readNext_40 ?_
          refine lv_topE (nI i) (congrFun (tq_row _ _ _ _ _) _) ?_
          refine r_put C hP hS 41 3 (Nat.lt_of_lt_of_le (by decide) hn) rfl (by decide) rfl hi3 tyX3 tyX3_ok nmX3 3 (by decide) (List.mem_of_getElem? (i := 4) rfl) rfl rfl rfl rfl rfl (Nat.le_of_ble_eq_true rfl) dX3_readNext_43 (fun H locs hP hS => ?_)
          rw [show up (tqV v t0 s0 v0 (nI i)) 41 3 (nI i) = tqV v t0 (nI i) v0 (nI i) from tq_3 _ _ _ _ _ _] at hP
          refine lv_aload_n C.1.1 C.1.2.1 dX3_readNext_46 rfl (lv_at hl 0 rfl) ?_
          refine lv_iconst (v := 0) C.1.1 C.1.2.1 dX3_readNext_47 rfl ?_
          refine r_put C hP hS 41 3 (Nat.lt_of_lt_of_le (by decide) hn) rfl (by decide) rfl hi3 tyX3 tyX3_ok nmX3 4 (by decide) (List.mem_of_getElem? (i := 5) rfl) rfl rfl rfl rfl rfl (Nat.le_of_ble_eq_true rfl) dX3_readNext_48 (fun H locs hP hS => ?_)
          rw [show up (tqV v t0 (nI i) v0 (nI i)) 41 4 0 = tqV v t0 (nI i) 0 (nI i) from tq_4 _ _ _ _ _ _] at hP
          refine lv_aload_n C.1.1 C.1.2.1 dX3_readNext_51 rfl (lv_at hl 0 rfl) ?_
          refine lv_aload_n C.1.1 C.1.2.1 dX3_readNext_52 rfl (lv_at hl 0 rfl) ?_
          refine r_get C hP 41 3 (Nat.lt_of_lt_of_le (by decide) hn) rfl (by decide) rfl hi3 5 (by decide) (List.mem_of_getElem? (i := 1) rfl) rfl (val := .int ((tqV v t0 (nI i) 0 (nI i)).1 41 5)) rfl dX3_readNext_53 ?_
          refine lv_topE (nI i) (congrFun (tq_row _ _ _ _ _) _) ?_
          refine lv_aload_n C.1.1 C.1.2.1 dX3_readNext_56 rfl (lv_at hl 0 rfl) ?_
          refine r_get C hP 41 3 (Nat.lt_of_lt_of_le (by decide) hn) rfl (by decide) rfl hi3 1 (by decide) (List.mem_of_getElem? (i := 2) rfl) rfl (val := .int ((tqV v t0 (nI i) 0 (nI i)).1 41 1)) rfl dX3_readNext_57 ?_
          refine lv_topE (nI T) ((congrFun (tq_row _ _ _ _ _) _).trans hL) ?_
          refine lv_icmp_ge (tgt := 78) C.1.1 C.1.2.1 dX3_readNext_60 (by decide) (fun c_12 => ?_) (fun c_12 => ?_)
          · rw [show (nI T ≤ nI i) = (T ≤ i) from propext (nI_leI (a := T) (b := i) (by omega) (by omega))] at c_12
            exact absurd c_12 (by omega)
          · rw [show (nI T ≤ nI i) = (T ≤ i) from propext (nI_leI (a := T) (b := i) (by omega) (by omega))] at c_12
            refine lv_aload_n C.1.1 C.1.2.1 dX3_readNext_63 rfl (lv_at hl 0 rfl) ?_
            refine r_get C hP 41 3 (Nat.lt_of_lt_of_le (by decide) hn) rfl (by decide) rfl hi3 0 (by decide) (List.mem_of_getElem? (i := 3) rfl) rfl (val := .ref (gA g 42)) rfl dX3_readNext_64 ?_
            refine lv_aload_n C.1.1 C.1.2.1 dX3_readNext_67 rfl (lv_at hl 0 rfl) ?_
            refine r_get C hP 41 3 (Nat.lt_of_lt_of_le (by decide) hn) rfl (by decide) rfl hi3 5 (by decide) (List.mem_of_getElem? (i := 1) rfl) rfl (val := .int ((tqV v t0 (nI i) 0 (nI i)).1 41 5)) rfl dX3_readNext_68 ?_
            refine lv_topE (nI i) (congrFun (tq_row _ _ _ _ _) _) ?_
            refine r_bald C hP 42 (Nat.lt_of_lt_of_le (by decide) hn) rfl i rfl (N := 120) rfl rfl (by omega) dX3_readNext_71 ?_
            refine lv_topE (B i) ((congrFun (tq_ne _ _ _ _ _ (by decide)) _).trans (hB i (by omega))) ?_
            refine a_F hS (run_S C hP hS hl.1 [.int (B i)] (kX3_tokenBegunBy l g n (tqV v t0 (nI i) 0 (nI i)) (B i)) gX3_readNext_X3_tokenBegunBy hdX3_tokenBegunBy rfl ⟨rfl, rfl⟩ ⟨Nat.le_of_ble_eq_true rfl, Nat.le_of_ble_eq_true rfl⟩ rfl [.ref (gA g 41)] rfl (Nat.le_of_ble_eq_true rfl) dX3_readNext_72 ⟨Nat.zero_le _, Nat.zero_le _⟩) (fun H locs hP hS => ?_)
            refine lv_goto (tgt := 79) C.1.1 C.1.2.1 dX3_readNext_75 (by decide) ?_
            refine r_put C hP hS 41 3 (Nat.lt_of_lt_of_le (by decide) hn) rfl (by decide) rfl hi3 tyX3 tyX3_ok nmX3 2 (by decide) (List.mem_of_getElem? (i := 6) rfl) rfl rfl rfl rfl rfl (Nat.le_of_ble_eq_true rfl) dX3_readNext_79 (fun H locs hP hS => ?_)
            rw [show up (tqV v t0 (nI i) 0 (nI i)) 41 2 (tkB (B i)) = tqV v (tkB (B i)) (nI i) 0 (nI i) from tq_2 _ _ _ _ _ _] at hP
            rcases tkB_cases (B i) with ⟨ek, hk1⟩ | ⟨ek, hk1, hk2⟩ | ⟨ek, hk1⟩ | ⟨ek, hk1, hk2, hk3⟩
            · rw [ek] at hP
              refine lv_aload_n C.1.1 C.1.2.1 dX3_readNext_82 rfl (lv_at hl 0 rfl) ?_
              refine r_get C hP 41 3 (Nat.lt_of_lt_of_le (by decide) hn) rfl (by decide) rfl hi3 2 (by decide) (List.mem_of_getElem? (i := 6) rfl) rfl (val := .int ((tqV v 1 (nI i) 0 (nI i)).1 41 2)) rfl dX3_readNext_83 ?_
              refine lv_topE 1 (congrFun (tq_row _ _ _ _ _) _) ?_
              refine lv_iconst (v := 3) C.1.1 C.1.2.1 dX3_readNext_86 rfl ?_
              refine lv_icmp_eq (tgt := 98) C.1.1 C.1.2.1 dX3_readNext_87 (by decide) (fun c_14 => absurd c_14 (by decide)) (fun _ => ?_)
              refine lv_aload_n C.1.1 C.1.2.1 dX3_readNext_90 rfl (lv_at hl 0 rfl) ?_
              refine r_get C hP 41 3 (Nat.lt_of_lt_of_le (by decide) hn) rfl (by decide) rfl hi3 2 (by decide) (List.mem_of_getElem? (i := 6) rfl) rfl (val := .int ((tqV v 1 (nI i) 0 (nI i)).1 41 2)) rfl dX3_readNext_91 ?_
              refine lv_topE 1 (congrFun (tq_row _ _ _ _ _) _) ?_
              refine lv_iconst (v := 4) C.1.1 C.1.2.1 dX3_readNext_94 rfl ?_
              refine lv_icmp_ne (tgt := 109) C.1.1 C.1.2.1 dX3_readNext_95 (by decide) (fun _ => ?_) (fun c_15 => absurd c_15 (by decide))
              have lp_109 : ∀ (k_109 q : Nat), q ≤ (T - i) → (T - i) + 1 ≤ q + k_109 → ∀ (H : Heap) (locs : List Loc) (ls : Array Slot), (∀ t, t < q → 0 < letF (B (i + t))) → va_P g.1 vwCl (wl g n (tqV v 1 (nI i) 0 (nI (i + q)))) H → va_S (wA g n) s.heap H locs → lv_has ls 1 [(0, .ref (gA g 41))] → W p l e rmX3_readNext s m args below meth c H locs 0 0 (MQ below (QG g n (ctV v B T (skp B T a))) args s 0 0 (wA g n)) (F0 m 109 ls []) := by
                clear hP hS hl
                intro k_109
                induction k_109 with
                | zero => exact fun q h1 h2 => absurd h2 (by omega)
                | succ k_109 ih_109 =>
                  intro q hi_109 hk_109 H locs ls hrun hP hS hl
                  refine lv_aload_n C.1.1 C.1.2.1 dX3_readNext_109 rfl (lv_at hl 0 rfl) ?_
                  refine r_get C hP 41 3 (Nat.lt_of_lt_of_le (by decide) hn) rfl (by decide) rfl hi3 5 (by decide) (List.mem_of_getElem? (i := 1) rfl) rfl (val := .int ((tqV v 1 (nI i) 0 (nI (i + q))).1 41 5)) rfl dX3_readNext_110 ?_
                  refine lv_topE (nI (i + q)) (congrFun (tq_row _ _ _ _ _) _) ?_
                  refine lv_aload_n C.1.1 C.1.2.1 dX3_readNext_113 rfl (lv_at hl 0 rfl) ?_
                  refine r_get C hP 41 3 (Nat.lt_of_lt_of_le (by decide) hn) rfl (by decide) rfl hi3 1 (by decide) (List.mem_of_getElem? (i := 2) rfl) rfl (val := .int ((tqV v 1 (nI i) 0 (nI (i + q))).1 41 1)) rfl dX3_readNext_114 ?_
                  refine lv_topE (nI T) ((congrFun (tq_row _ _ _ _ _) _).trans hL) ?_
                  refine lv_icmp_ge (tgt := 190) C.1.1 C.1.2.1 dX3_readNext_117 (by decide) (fun c_16 => ?_) (fun c_16 => ?_)
                  · rw [show (nI T ≤ nI (i + q)) = (T ≤ i + q) from propext (nI_leI (a := T) (b := i + q) (by omega) (by omega))] at c_16
                    have hen : wrE B T i = i + q := wrE_eq hrun (by rw [hB1 (i + q) (by omega)]; decide) (by omega)
                    exact t_G C rfl hP hS (by rw [hsk, ct_word hiT ek hen]) dX3_readNext_190
                  · rw [show (nI T ≤ nI (i + q)) = (T ≤ i + q) from propext (nI_leI (a := T) (b := i + q) (by omega) (by omega))] at c_16
                    refine lv_aload_n C.1.1 C.1.2.1 dX3_readNext_120 rfl (lv_at hl 0 rfl) ?_
                    refine r_get C hP 41 3 (Nat.lt_of_lt_of_le (by decide) hn) rfl (by decide) rfl hi3 0 (by decide) (List.mem_of_getElem? (i := 3) rfl) rfl (val := .ref (gA g 42)) rfl dX3_readNext_121 ?_
                    refine lv_aload_n C.1.1 C.1.2.1 dX3_readNext_124 rfl (lv_at hl 0 rfl) ?_
                    refine r_get C hP 41 3 (Nat.lt_of_lt_of_le (by decide) hn) rfl (by decide) rfl hi3 5 (by decide) (List.mem_of_getElem? (i := 1) rfl) rfl (val := .int ((tqV v 1 (nI i) 0 (nI (i + q))).1 41 5)) rfl dX3_readNext_125 ?_
                    refine lv_topE (nI (i + q)) (congrFun (tq_row _ _ _ _ _) _) ?_
                    refine r_bald C hP 42 (Nat.lt_of_lt_of_le (by decide) hn) rfl (i + q) rfl (N := 120) rfl rfl (by omega) dX3_readNext_128 ?_
                    refine lv_topE (B (i + q)) ((congrFun (tq_ne _ _ _ _ _ (by decide)) _).trans (hB (i + q) (by omega))) ?_
                    refine a_F hS (run_S C hP hS hl.1 [.int (B (i + q))] (kX3_tokenBegunBy l g n (tqV v 1 (nI i) 0 (nI (i + q))) (B (i + q))) gX3_readNext_X3_tokenBegunBy hdX3_tokenBegunBy rfl ⟨rfl, rfl⟩ ⟨Nat.le_of_ble_eq_true rfl, Nat.le_of_ble_eq_true rfl⟩ rfl [] rfl (Nat.le_of_ble_eq_true rfl) dX3_readNext_129 ⟨Nat.zero_le _, Nat.zero_le _⟩) (fun H locs hP hS => ?_)
                    refine lv_aload_n C.1.1 C.1.2.1 dX3_readNext_132 rfl (lv_at hl 0 rfl) ?_
                    refine r_get C hP 41 3 (Nat.lt_of_lt_of_le (by decide) hn) rfl (by decide) rfl hi3 2 (by decide) (List.mem_of_getElem? (i := 6) rfl) rfl (val := .int ((tqV v 1 (nI i) 0 (nI (i + q))).1 41 2)) rfl dX3_readNext_133 ?_
                    refine lv_topE 1 (congrFun (tq_row _ _ _ _ _) _) ?_
                    refine lv_icmp_ne (tgt := 190) C.1.1 C.1.2.1 dX3_readNext_136 (by decide) (fun c_17 => ?_) (fun c_17 => ?_)
                    · skip
                      have hen : wrE B T i = i + q := wrE_eq hrun (fun z => c_17 (tkB_1.mpr z)) (by omega)
                      exact t_G C rfl hP hS (by rw [hsk, ct_word hiT ek hen]) dX3_readNext_190
                    · skip
                      have hq1 := tkB_1.mp c_17
                      refine lv_aload_n C.1.1 C.1.2.1 dX3_readNext_139 rfl (lv_at hl 0 rfl) ?_
                      refine r_get C hP 41 3 (Nat.lt_of_lt_of_le (by decide) hn) rfl (by decide) rfl hi3 2 (by decide) (List.mem_of_getElem? (i := 6) rfl) rfl (val := .int ((tqV v 1 (nI i) 0 (nI (i + q))).1 41 2)) rfl dX3_readNext_140 ?_
                      refine lv_topE 1 (congrFun (tq_row _ _ _ _ _) _) ?_
                      refine lv_iconst (v := 2) C.1.1 C.1.2.1 dX3_readNext_143 rfl ?_
                      refine lv_icmp_ne (tgt := 177) C.1.1 C.1.2.1 dX3_readNext_144 (by decide) (fun _ => ?_) (fun c_18 => absurd c_18 (by decide))
                      refine lv_aload_n C.1.1 C.1.2.1 dX3_readNext_177 rfl (lv_at hl 0 rfl) ?_
                      refine lv_dup C.1.1 C.1.2.1 dX3_readNext_178 rfl ?_
                      refine r_get C hP 41 3 (Nat.lt_of_lt_of_le (by decide) hn) rfl (by decide) rfl hi3 5 (by decide) (List.mem_of_getElem? (i := 1) rfl) rfl (val := .int ((tqV v 1 (nI i) 0 (nI (i + q))).1 41 5)) rfl dX3_readNext_179 ?_
                      refine lv_topE (nI (i + q)) (congrFun (tq_row _ _ _ _ _) _) ?_
                      refine lv_iconst (v := 1) C.1.1 C.1.2.1 dX3_readNext_182 rfl ?_
                      refine lv_iadd C.1.1 C.1.2.1 dX3_readNext_183 ?_
                      refine lv_topE (nI ((i + q) + 1)) (nI_add (i + q) 1) ?_
                      refine r_put C hP hS 41 3 (Nat.lt_of_lt_of_le (by decide) hn) rfl (by decide) rfl hi3 tyX3 tyX3_ok nmX3 5 (by decide) (List.mem_of_getElem? (i := 1) rfl) rfl rfl rfl rfl rfl (Nat.le_of_ble_eq_true rfl) dX3_readNext_184 (fun H locs hP hS => ?_)
                      rw [show up (tqV v 1 (nI i) 0 (nI (i + q))) 41 5 (nI ((i + q) + 1)) = tqV v 1 (nI i) 0 (nI ((i + q) + 1)) from tq_5 _ _ _ _ _ _] at hP
                      refine lv_goto (tgt := 109) C.1.1 C.1.2.1 dX3_readNext_187 (by decide) ?_
                      exact ih_109 (q + 1) (by omega) (by omega) _ _ _ (fun t ht => if h9 : t < q then hrun t h9 else by rw [show t = q by omega]; exact hq1) hP hS (lv_sub hl [0] rfl)
              exact lp_109 ((T - i) + 1) 0 (Nat.zero_le _) (by omega) _ _ _ (fun t ht => absurd ht (Nat.not_lt_zero t)) hP hS (lv_sub hl [0] rfl)
            · rw [ek] at hP
              refine lv_aload_n C.1.1 C.1.2.1 dX3_readNext_82 rfl (lv_at hl 0 rfl) ?_
              refine r_get C hP 41 3 (Nat.lt_of_lt_of_le (by decide) hn) rfl (by decide) rfl hi3 2 (by decide) (List.mem_of_getElem? (i := 6) rfl) rfl (val := .int ((tqV v 2 (nI i) 0 (nI i)).1 41 2)) rfl dX3_readNext_83 ?_
              refine lv_topE 2 (congrFun (tq_row _ _ _ _ _) _) ?_
              refine lv_iconst (v := 3) C.1.1 C.1.2.1 dX3_readNext_86 rfl ?_
              refine lv_icmp_eq (tgt := 98) C.1.1 C.1.2.1 dX3_readNext_87 (by decide) (fun c_20 => absurd c_20 (by decide)) (fun _ => ?_)
              refine lv_aload_n C.1.1 C.1.2.1 dX3_readNext_90 rfl (lv_at hl 0 rfl) ?_
              refine r_get C hP 41 3 (Nat.lt_of_lt_of_le (by decide) hn) rfl (by decide) rfl hi3 2 (by decide) (List.mem_of_getElem? (i := 6) rfl) rfl (val := .int ((tqV v 2 (nI i) 0 (nI i)).1 41 2)) rfl dX3_readNext_91 ?_
              refine lv_topE 2 (congrFun (tq_row _ _ _ _ _) _) ?_
              refine lv_iconst (v := 4) C.1.1 C.1.2.1 dX3_readNext_94 rfl ?_
              refine lv_icmp_ne (tgt := 109) C.1.1 C.1.2.1 dX3_readNext_95 (by decide) (fun _ => ?_) (fun c_21 => absurd c_21 (by decide))
              have lp_109 : ∀ (k_109 q : Nat), q ≤ (T - i) → (T - i) + 1 ≤ q + k_109 → ∀ (H : Heap) (locs : List Loc) (ls : Array Slot), (∀ t, t < q → dgP (B (i + t))) → va_P g.1 vwCl (wl g n (tqV v 2 (nI i) (nI (vlN B i q)) (nI (i + q)))) H → va_S (wA g n) s.heap H locs → lv_has ls 1 [(0, .ref (gA g 41))] → W p l e rmX3_readNext s m args below meth c H locs 0 0 (MQ below (QG g n (ctV v B T (skp B T a))) args s 0 0 (wA g n)) (F0 m 109 ls []) := by
                clear hP hS hl
                intro k_109
                induction k_109 with
                | zero => exact fun q h1 h2 => absurd h2 (by omega)
                | succ k_109 ih_109 =>
                  intro q hi_109 hk_109 H locs ls hrun hP hS hl
                  refine lv_aload_n C.1.1 C.1.2.1 dX3_readNext_109 rfl (lv_at hl 0 rfl) ?_
                  refine r_get C hP 41 3 (Nat.lt_of_lt_of_le (by decide) hn) rfl (by decide) rfl hi3 5 (by decide) (List.mem_of_getElem? (i := 1) rfl) rfl (val := .int ((tqV v 2 (nI i) (nI (vlN B i q)) (nI (i + q))).1 41 5)) rfl dX3_readNext_110 ?_
                  refine lv_topE (nI (i + q)) (congrFun (tq_row _ _ _ _ _) _) ?_
                  refine lv_aload_n C.1.1 C.1.2.1 dX3_readNext_113 rfl (lv_at hl 0 rfl) ?_
                  refine r_get C hP 41 3 (Nat.lt_of_lt_of_le (by decide) hn) rfl (by decide) rfl hi3 1 (by decide) (List.mem_of_getElem? (i := 2) rfl) rfl (val := .int ((tqV v 2 (nI i) (nI (vlN B i q)) (nI (i + q))).1 41 1)) rfl dX3_readNext_114 ?_
                  refine lv_topE (nI T) ((congrFun (tq_row _ _ _ _ _) _).trans hL) ?_
                  refine lv_icmp_ge (tgt := 190) C.1.1 C.1.2.1 dX3_readNext_117 (by decide) (fun c_22 => ?_) (fun c_22 => ?_)
                  · rw [show (nI T ≤ nI (i + q)) = (T ≤ i + q) from propext (nI_leI (a := T) (b := i + q) (by omega) (by omega))] at c_22
                    have hen : nmE B T i = i + q := nmE_eq hrun (by rw [hB1 (i + q) (by omega)]; decide) (by omega)
                    exact t_G C rfl hP hS (by rw [hsk, ct_num hiT ek hen]) dX3_readNext_190
                  · rw [show (nI T ≤ nI (i + q)) = (T ≤ i + q) from propext (nI_leI (a := T) (b := i + q) (by omega) (by omega))] at c_22
                    refine lv_aload_n C.1.1 C.1.2.1 dX3_readNext_120 rfl (lv_at hl 0 rfl) ?_
                    refine r_get C hP 41 3 (Nat.lt_of_lt_of_le (by decide) hn) rfl (by decide) rfl hi3 0 (by decide) (List.mem_of_getElem? (i := 3) rfl) rfl (val := .ref (gA g 42)) rfl dX3_readNext_121 ?_
                    refine lv_aload_n C.1.1 C.1.2.1 dX3_readNext_124 rfl (lv_at hl 0 rfl) ?_
                    refine r_get C hP 41 3 (Nat.lt_of_lt_of_le (by decide) hn) rfl (by decide) rfl hi3 5 (by decide) (List.mem_of_getElem? (i := 1) rfl) rfl (val := .int ((tqV v 2 (nI i) (nI (vlN B i q)) (nI (i + q))).1 41 5)) rfl dX3_readNext_125 ?_
                    refine lv_topE (nI (i + q)) (congrFun (tq_row _ _ _ _ _) _) ?_
                    refine r_bald C hP 42 (Nat.lt_of_lt_of_le (by decide) hn) rfl (i + q) rfl (N := 120) rfl rfl (by omega) dX3_readNext_128 ?_
                    refine lv_topE (B (i + q)) ((congrFun (tq_ne _ _ _ _ _ (by decide)) _).trans (hB (i + q) (by omega))) ?_
                    refine a_F hS (run_S C hP hS hl.1 [.int (B (i + q))] (kX3_tokenBegunBy l g n (tqV v 2 (nI i) (nI (vlN B i q)) (nI (i + q))) (B (i + q))) gX3_readNext_X3_tokenBegunBy hdX3_tokenBegunBy rfl ⟨rfl, rfl⟩ ⟨Nat.le_of_ble_eq_true rfl, Nat.le_of_ble_eq_true rfl⟩ rfl [] rfl (Nat.le_of_ble_eq_true rfl) dX3_readNext_129 ⟨Nat.zero_le _, Nat.zero_le _⟩) (fun H locs hP hS => ?_)
                    refine lv_aload_n C.1.1 C.1.2.1 dX3_readNext_132 rfl (lv_at hl 0 rfl) ?_
                    refine r_get C hP 41 3 (Nat.lt_of_lt_of_le (by decide) hn) rfl (by decide) rfl hi3 2 (by decide) (List.mem_of_getElem? (i := 6) rfl) rfl (val := .int ((tqV v 2 (nI i) (nI (vlN B i q)) (nI (i + q))).1 41 2)) rfl dX3_readNext_133 ?_
                    refine lv_topE 2 (congrFun (tq_row _ _ _ _ _) _) ?_
                    refine lv_icmp_ne (tgt := 190) C.1.1 C.1.2.1 dX3_readNext_136 (by decide) (fun c_23 => ?_) (fun c_23 => ?_)
                    · skip
                      have hen : nmE B T i = i + q := nmE_eq hrun (fun z => c_23 (tkB_2.mpr z)) (by omega)
                      exact t_G C rfl hP hS (by rw [hsk, ct_num hiT ek hen]) dX3_readNext_190
                    · skip
                      have hq1 := tkB_2.mp c_23
                      refine lv_aload_n C.1.1 C.1.2.1 dX3_readNext_139 rfl (lv_at hl 0 rfl) ?_
                      refine r_get C hP 41 3 (Nat.lt_of_lt_of_le (by decide) hn) rfl (by decide) rfl hi3 2 (by decide) (List.mem_of_getElem? (i := 6) rfl) rfl (val := .int ((tqV v 2 (nI i) (nI (vlN B i q)) (nI (i + q))).1 41 2)) rfl dX3_readNext_140 ?_
                      refine lv_topE 2 (congrFun (tq_row _ _ _ _ _) _) ?_
                      refine lv_iconst (v := 2) C.1.1 C.1.2.1 dX3_readNext_143 rfl ?_
                      refine lv_icmp_ne (tgt := 177) C.1.1 C.1.2.1 dX3_readNext_144 (by decide) (fun c_24 => absurd c_24 (by decide)) (fun _ => ?_)
                      refine lv_aload_n C.1.1 C.1.2.1 dX3_readNext_147 rfl (lv_at hl 0 rfl) ?_
                      refine lv_sipush (v := 10000) C.1.1 C.1.2.1 dX3_readNext_148 rfl ?_
                      refine lv_aload_n C.1.1 C.1.2.1 dX3_readNext_151 rfl (lv_at hl 0 rfl) ?_
                      refine r_get C hP 41 3 (Nat.lt_of_lt_of_le (by decide) hn) rfl (by decide) rfl hi3 4 (by decide) (List.mem_of_getElem? (i := 5) rfl) rfl (val := .int ((tqV v 2 (nI i) (nI (vlN B i q)) (nI (i + q))).1 41 4)) rfl dX3_readNext_152 ?_
                      refine lv_topE (nI (vlN B i q)) (congrFun (tq_row _ _ _ _ _) _) ?_
                      refine lv_bipush (v := 10) C.1.1 C.1.2.1 dX3_readNext_155 rfl ?_
                      refine lv_imul C.1.1 C.1.2.1 dX3_readNext_157 ?_
                      refine lv_topE (nI ((vlN B i q) * 10)) (pk_mul (vlN B i q) 10) ?_
                      refine lv_aload_n C.1.1 C.1.2.1 dX3_readNext_158 rfl (lv_at hl 0 rfl) ?_
                      refine r_get C hP 41 3 (Nat.lt_of_lt_of_le (by decide) hn) rfl (by decide) rfl hi3 0 (by decide) (List.mem_of_getElem? (i := 3) rfl) rfl (val := .ref (gA g 42)) rfl dX3_readNext_159 ?_
                      refine lv_aload_n C.1.1 C.1.2.1 dX3_readNext_162 rfl (lv_at hl 0 rfl) ?_
                      refine r_get C hP 41 3 (Nat.lt_of_lt_of_le (by decide) hn) rfl (by decide) rfl hi3 5 (by decide) (List.mem_of_getElem? (i := 1) rfl) rfl (val := .int ((tqV v 2 (nI i) (nI (vlN B i q)) (nI (i + q))).1 41 5)) rfl dX3_readNext_163 ?_
                      refine lv_topE (nI (i + q)) (congrFun (tq_row _ _ _ _ _) _) ?_
                      refine r_bald C hP 42 (Nat.lt_of_lt_of_le (by decide) hn) rfl (i + q) rfl (N := 120) rfl rfl (by omega) dX3_readNext_166 ?_
                      refine lv_topE (B (i + q)) ((congrFun (tq_ne _ _ _ _ _ (by decide)) _).trans (hB (i + q) (by omega))) ?_
                      refine lv_bipush (v := 48) C.1.1 C.1.2.1 dX3_readNext_167 rfl ?_
                      refine lv_isub C.1.1 C.1.2.1 dX3_readNext_169 ?_
                      refine lv_iadd C.1.1 C.1.2.1 dX3_readNext_170 ?_
                      refine va_mmin C.1.1 C.1.2.1 (C.1.2.2.1.trans hl.1.symm) C.1.2.2.2.1 (C.1.2.2.2.2 _ (List.mem_of_getElem? (i := 7) rfl)) (C.1.2.2.2.2 _ (List.mem_of_getElem? (i := 8) rfl)) (C.1.2.2.2.2 _ (List.mem_of_getElem? (i := 9) rfl)) (C.1.2.2.2.2 _ (List.mem_of_getElem? (i := 10) rfl)) (Nat.le_of_ble_eq_true rfl) (Nat.le_of_ble_eq_true rfl) (Nat.le_refl _) (Nat.le_refl _) dX3_readNext_171 ?_
                      refine lv_topE (nI (vlN B i (q + 1))) (vl_min hq1) ?_
                      refine r_put C hP hS 41 3 (Nat.lt_of_lt_of_le (by decide) hn) rfl (by decide) rfl hi3 tyX3 tyX3_ok nmX3 4 (by decide) (List.mem_of_getElem? (i := 5) rfl) rfl rfl rfl rfl rfl (Nat.le_of_ble_eq_true rfl) dX3_readNext_174 (fun H locs hP hS => ?_)
                      rw [show up (tqV v 2 (nI i) (nI (vlN B i q)) (nI (i + q))) 41 4 (nI (vlN B i (q + 1))) = tqV v 2 (nI i) (nI (vlN B i (q + 1))) (nI (i + q)) from tq_4 _ _ _ _ _ _] at hP
                      refine lv_aload_n C.1.1 C.1.2.1 dX3_readNext_177 rfl (lv_at hl 0 rfl) ?_
                      refine lv_dup C.1.1 C.1.2.1 dX3_readNext_178 rfl ?_
                      refine r_get C hP 41 3 (Nat.lt_of_lt_of_le (by decide) hn) rfl (by decide) rfl hi3 5 (by decide) (List.mem_of_getElem? (i := 1) rfl) rfl (val := .int ((tqV v 2 (nI i) (nI (vlN B i (q + 1))) (nI (i + q))).1 41 5)) rfl dX3_readNext_179 ?_
                      refine lv_topE (nI (i + q)) (congrFun (tq_row _ _ _ _ _) _) ?_
                      refine lv_iconst (v := 1) C.1.1 C.1.2.1 dX3_readNext_182 rfl ?_
                      refine lv_iadd C.1.1 C.1.2.1 dX3_readNext_183 ?_
                      refine lv_topE (nI ((i + q) + 1)) (nI_add (i + q) 1) ?_
                      refine r_put C hP hS 41 3 (Nat.lt_of_lt_of_le (by decide) hn) rfl (by decide) rfl hi3 tyX3 tyX3_ok nmX3 5 (by decide) (List.mem_of_getElem? (i := 1) rfl) rfl rfl rfl rfl rfl (Nat.le_of_ble_eq_true rfl) dX3_readNext_184 (fun H locs hP hS => ?_)
                      rw [show up (tqV v 2 (nI i) (nI (vlN B i (q + 1))) (nI (i + q))) 41 5 (nI ((i + q) + 1)) = tqV v 2 (nI i) (nI (vlN B i (q + 1))) (nI ((i + q) + 1)) from tq_5 _ _ _ _ _ _] at hP
                      refine lv_goto (tgt := 109) C.1.1 C.1.2.1 dX3_readNext_187 (by decide) ?_
                      exact ih_109 (q + 1) (by omega) (by omega) _ _ _ (fun t ht => if h9 : t < q then hrun t h9 else by rw [show t = q by omega]; exact hq1) hP hS (lv_sub hl [0] rfl)
              exact lp_109 ((T - i) + 1) 0 (Nat.zero_le _) (by omega) _ _ _ (fun t ht => absurd ht (Nat.not_lt_zero t)) hP hS (lv_sub hl [0] rfl)
            · rw [ek] at hP
              refine lv_aload_n C.1.1 C.1.2.1 dX3_readNext_82 rfl (lv_at hl 0 rfl) ?_
              refine r_get C hP 41 3 (Nat.lt_of_lt_of_le (by decide) hn) rfl (by decide) rfl hi3 2 (by decide) (List.mem_of_getElem? (i := 6) rfl) rfl (val := .int ((tqV v 3 (nI i) 0 (nI i)).1 41 2)) rfl dX3_readNext_83 ?_
              refine lv_topE 3 (congrFun (tq_row _ _ _ _ _) _) ?_
              refine lv_iconst (v := 3) C.1.1 C.1.2.1 dX3_readNext_86 rfl ?_
              refine lv_icmp_eq (tgt := 98) C.1.1 C.1.2.1 dX3_readNext_87 (by decide) (fun _ => ?_) (fun c_27 => absurd c_27 (by decide))
              refine lv_aload_n C.1.1 C.1.2.1 dX3_readNext_98 rfl (lv_at hl 0 rfl) ?_
              refine lv_dup C.1.1 C.1.2.1 dX3_readNext_99 rfl ?_
              refine r_get C hP 41 3 (Nat.lt_of_lt_of_le (by decide) hn) rfl (by decide) rfl hi3 5 (by decide) (List.mem_of_getElem? (i := 1) rfl) rfl (val := .int ((tqV v 3 (nI i) 0 (nI i)).1 41 5)) rfl dX3_readNext_100 ?_
              refine lv_topE (nI i) (congrFun (tq_row _ _ _ _ _) _) ?_
              refine lv_iconst (v := 1) C.1.1 C.1.2.1 dX3_readNext_103 rfl ?_
              refine lv_iadd C.1.1 C.1.2.1 dX3_readNext_104 ?_
              refine lv_topE (nI (i + 1)) (nI_add i 1) ?_
              refine r_put C hP hS 41 3 (Nat.lt_of_lt_of_le (by decide) hn) rfl (by decide) rfl hi3 tyX3 tyX3_ok nmX3 5 (by decide) (List.mem_of_getElem? (i := 1) rfl) rfl rfl rfl rfl rfl (Nat.le_of_ble_eq_true rfl) dX3_readNext_105 (fun H locs hP hS => ?_)
              rw [show up (tqV v 3 (nI i) 0 (nI i)) 41 5 (nI (i + 1)) = tqV v 3 (nI i) 0 (nI (i + 1)) from tq_5 _ _ _ _ _ _] at hP
              exact t_G C rfl hP hS (by rw [hsk, ct_sign hiT hk1]) dX3_readNext_108
            · rw [ek] at hP
              refine lv_aload_n C.1.1 C.1.2.1 dX3_readNext_82 rfl (lv_at hl 0 rfl) ?_
              refine r_get C hP 41 3 (Nat.lt_of_lt_of_le (by decide) hn) rfl (by decide) rfl hi3 2 (by decide) (List.mem_of_getElem? (i := 6) rfl) rfl (val := .int ((tqV v 4 (nI i) 0 (nI i)).1 41 2)) rfl dX3_readNext_83 ?_
              refine lv_topE 4 (congrFun (tq_row _ _ _ _ _) _) ?_
              refine lv_iconst (v := 3) C.1.1 C.1.2.1 dX3_readNext_86 rfl ?_
              refine lv_icmp_eq (tgt := 98) C.1.1 C.1.2.1 dX3_readNext_87 (by decide) (fun c_29 => absurd c_29 (by decide)) (fun _ => ?_)
              refine lv_aload_n C.1.1 C.1.2.1 dX3_readNext_90 rfl (lv_at hl 0 rfl) ?_
              refine r_get C hP 41 3 (Nat.lt_of_lt_of_le (by decide) hn) rfl (by decide) rfl hi3 2 (by decide) (List.mem_of_getElem? (i := 6) rfl) rfl (val := .int ((tqV v 4 (nI i) 0 (nI i)).1 41 2)) rfl dX3_readNext_91 ?_
              refine lv_topE 4 (congrFun (tq_row _ _ _ _ _) _) ?_
              refine lv_iconst (v := 4) C.1.1 C.1.2.1 dX3_readNext_94 rfl ?_
              refine lv_icmp_ne (tgt := 109) C.1.1 C.1.2.1 dX3_readNext_95 (by decide) (fun c_30 => absurd c_30 (by decide)) (fun _ => ?_)
              refine lv_aload_n C.1.1 C.1.2.1 dX3_readNext_98 rfl (lv_at hl 0 rfl) ?_
              refine lv_dup C.1.1 C.1.2.1 dX3_readNext_99 rfl ?_
              refine r_get C hP 41 3 (Nat.lt_of_lt_of_le (by decide) hn) rfl (by decide) rfl hi3 5 (by decide) (List.mem_of_getElem? (i := 1) rfl) rfl (val := .int ((tqV v 4 (nI i) 0 (nI i)).1 41 5)) rfl dX3_readNext_100 ?_
              refine lv_topE (nI i) (congrFun (tq_row _ _ _ _ _) _) ?_
              refine lv_iconst (v := 1) C.1.1 C.1.2.1 dX3_readNext_103 rfl ?_
              refine lv_iadd C.1.1 C.1.2.1 dX3_readNext_104 ?_
              refine lv_topE (nI (i + 1)) (nI_add i 1) ?_
              refine r_put C hP hS 41 3 (Nat.lt_of_lt_of_le (by decide) hn) rfl (by decide) rfl hi3 tyX3 tyX3_ok nmX3 5 (by decide) (List.mem_of_getElem? (i := 1) rfl) rfl rfl rfl rfl rfl (Nat.le_of_ble_eq_true rfl) dX3_readNext_105 (fun H locs hP hS => ?_)
              rw [show up (tqV v 4 (nI i) 0 (nI i)) 41 5 (nI (i + 1)) = tqV v 4 (nI i) 0 (nI (i + 1)) from tq_5 _ _ _ _ _ _] at hP
              exact t_G C rfl hP hS (by rw [hsk, ct_odd hiT ek]) dX3_readNext_108
        · skip
          refine lv_aload_n C.1.1 C.1.2.1 dX3_readNext_25 rfl (lv_at hl 0 rfl) ?_
          refine lv_dup C.1.1 C.1.2.1 dX3_readNext_26 rfl ?_
          refine r_get C hP 41 3 (Nat.lt_of_lt_of_le (by decide) hn) rfl (by decide) rfl hi3 5 (by decide) (List.mem_of_getElem? (i := 1) rfl) rfl (val := .int ((tqV v t0 s0 v0 (nI i)).1 41 5)) rfl dX3_readNext_27 ?_
          refine lv_topE (nI i) (congrFun (tq_row _ _ _ _ _) _) ?_
          refine lv_iconst (v := 1) C.1.1 C.1.2.1 dX3_readNext_30 rfl ?_
          refine lv_iadd C.1.1 C.1.2.1 dX3_readNext_31 ?_
          refine lv_topE (nI (i + 1)) (nI_add i 1) ?_
          refine r_put C hP hS 41 3 (Nat.lt_of_lt_of_le (by decide) hn) rfl (by decide) rfl hi3 tyX3 tyX3_ok nmX3 5 (by decide) (List.mem_of_getElem? (i := 1) rfl) rfl rfl rfl rfl rfl (Nat.le_of_ble_eq_true rfl) dX3_readNext_32 (fun H locs hP hS => ?_)
          rw [show up (tqV v t0 s0 v0 (nI i)) 41 5 (nI (i + 1)) = tqV v t0 s0 v0 (nI (i + 1)) from tq_5 _ _ _ _ _ _] at hP
          refine lv_goto (tgt := 0) C.1.1 C.1.2.1 dX3_readNext_35 (by decide) ?_
          exact ih_0 (i + 1) (by omega) (by omega) _ _ _ (by omega) (fun t h1 h2 => if h9 : t < i then hsp t h1 h9 else by rw [show t = i by omega]; exact c_9) hP hS (lv_sub hl [0] rfl)
  exact lp_0 (T + 1) a haT (by omega) _ _ _ (Nat.le_refl a) (fun t h1 h2 => absurd h2 (by omega)) hP hS (lv_sub hl [0] rfl)

abbrev rmX3_readFirst : Room := { frames := 2, cells := 0, slots := 0, locals := 44 }
set_option maxHeartbeats 4000000 in
set_option maxRecDepth 100000 in
theorem kX3_readFirst (l : Launch) (g : GG) (n : Nat) (v : SV) (B : Nat → Int32) (T : Nat) (hT : T ≤ 120) (hL : v.1 41 1 = nI T) (hB : ∀ j, j < T → v.1 42 j = B j) (hB1 : ∀ j, T ≤ j → B j = -1) : Met l yX3_readFirst wsX3_readFirst rmX3_readFirst (PW g n v [.ref (gA g 41)]) (QG g n (ctV v B T (skp B T 0))) 0 0 (wA g n) := by
  refine Met.begin RX3 rfl (by decide) rfl (Nat.le_of_ble_eq_true rfl) ?_
  intro p e s m args below meth c ls ha C hP hS hl
  have hn : 64 ≤ n := C.2.1.1.2.1
  have hi3 : ∀ w ∈ u_ws RX3 TX3 6, w ∈ wsX3_readFirst := by decide +kernel
  have hl : lv_has ls 1 [(0, .ref (gA g 41))] := hl
  refine lv_aload_n C.1.1 C.1.2.1 dX3_readFirst_0 rfl (lv_at hl 0 rfl) ?_
  refine lv_iconst (v := 0) C.1.1 C.1.2.1 dX3_readFirst_1 rfl ?_
  refine r_put C hP hS 41 3 (Nat.lt_of_lt_of_le (by decide) hn) rfl (by decide) rfl hi3 tyX3 tyX3_ok nmX3 5 (by decide) (List.mem_of_getElem? (i := 1) rfl) rfl rfl rfl rfl rfl (Nat.le_of_ble_eq_true rfl) dX3_readFirst_2 (fun H locs hP hS => ?_)
  refine lv_aload_n C.1.1 C.1.2.1 dX3_readFirst_5 rfl (lv_at hl 0 rfl) ?_
  refine a_G hS (run_V C hP hS hl.1 41 3 (Nat.lt_of_lt_of_le (by decide) hn) rfl (by decide) rfl [] (kX3_readNext l g n (up v 41 5 0) B T hT ((congrFun (upw_same _ _ _) _).trans hL) hB hB1 0 (Nat.zero_le _) (upup _ _ _ _)) gX3_readFirst_X3_readNext rfl hdX3_readNext rfl ⟨rfl, rfl⟩ ⟨Nat.le_of_ble_eq_true rfl, Nat.le_of_ble_eq_true rfl⟩ rfl [] rfl (Nat.le_of_ble_eq_true rfl) dX3_readFirst_6 ⟨Nat.zero_le _, Nat.zero_le _⟩) (fun H locs hP hS => ?_)
  exact t_G C rfl hP hS (tq_over _ _ _ _ _ _) dX3_readFirst_9

abbrev rmX3_isWord : Room := { frames := 4, cells := 0, slots := 0, locals := 85 }
set_option maxHeartbeats 4000000 in
set_option maxRecDepth 100000 in
theorem kX3_isWord (l : Launch) (g : GG) (n : Nat) (v : SV) (B : Nat → Int32) (T : Nat) (hT : T ≤ 120) (hL : v.1 41 1 = nI T) (hB : ∀ j, j < T → v.1 42 j = B j) (hB1 : ∀ j, T ≤ j → B j = -1) (i : Nat) (hi : i < 15) (q0 : Nat) (hc : q0 ≤ T) (h2 : v.1 41 2 = tkK B T q0) (h3 : v.1 41 3 = nI q0) (h5 : v.1 41 5 = nI (tnE B T q0)) : Met l yX3_isWord wsX3_isWord rmX3_isWord (PW g n v [.ref (gA g 41), .ref (gK g i)]) (QB g n (wdP B T q0 (hsW.getD i 0)) v) 0 0 (wA g n) := by
  refine Met.begin RX3 rfl (by decide) rfl (Nat.le_of_ble_eq_true rfl) ?_
  intro p e s m args below meth c ls ha C hP hS hl
  have hn : 64 ≤ n := C.2.1.1.2.1
  have hi3 : ∀ w ∈ u_ws RX3 TX3 6, w ∈ wsX3_isWord := by decide +kernel
  have hl : lv_has ls 3 [(0, .ref (gA g 41)), (1, .ref (gK g i))] := hl
  have hw8 := wd_lt i hi
  refine lv_aload_n C.1.1 C.1.2.1 dX3_isWord_0 rfl (lv_at hl 0 rfl) ?_
  refine r_get C hP 41 3 (Nat.lt_of_lt_of_le (by decide) hn) rfl (by decide) rfl hi3 2 (by decide) (List.mem_of_getElem? (i := 1) rfl) rfl (val := .int (v.1 41 2)) rfl dX3_isWord_1 ?_
  refine lv_topE (tkK B T q0) h2 ?_
  refine lv_iconst (v := 1) C.1.1 C.1.2.1 dX3_isWord_4 rfl ?_
  refine lv_icmp_ne (tgt := 24) C.1.1 C.1.2.1 dX3_isWord_5 (by decide) (fun c_1 => ?_) (fun c_1 => ?_)
  · skip
    refine lv_iconst (v := 0) C.1.1 C.1.2.1 dX3_isWord_24 rfl ?_
    exact t_0 C rfl hP hS (fun z => c_1 z.1) rfl dX3_isWord_25
  · skip
    have hk1 := c_1
    obtain ⟨q, hqT, hE, hX, hlet⟩ := tk_wordE hc c_1
    refine lv_aload_n C.1.1 C.1.2.1 dX3_isWord_8 rfl (lv_at hl 0 rfl) ?_
    refine r_get C hP 41 3 (Nat.lt_of_lt_of_le (by decide) hn) rfl (by decide) rfl hi3 5 (by decide) (List.mem_of_getElem? (i := 2) rfl) rfl (val := .int (v.1 41 5)) rfl dX3_isWord_9 ?_
    refine lv_topE (nI (tnE B T q0)) h5 ?_
    refine lv_aload_n C.1.1 C.1.2.1 dX3_isWord_12 rfl (lv_at hl 0 rfl) ?_
    refine r_get C hP 41 3 (Nat.lt_of_lt_of_le (by decide) hn) rfl (by decide) rfl hi3 3 (by decide) (List.mem_of_getElem? (i := 3) rfl) rfl (val := .int (v.1 41 3)) rfl dX3_isWord_13 ?_
    refine lv_topE (nI q0) h3 ?_
    refine lv_isub C.1.1 C.1.2.1 dX3_isWord_16 ?_
    refine lv_topE (nI q) (by rw [hE]; exact isub_q (by omega)) ?_
    refine lv_aload_n C.1.1 C.1.2.1 dX3_isWord_17 rfl (lv_at hl 1 rfl) ?_
    refine a_F hS (run_K C hP hS hl.1 i hi [] (kJ0_length_8abf5 l g n v i hi) gX3_isWord_J0_length_8abf5 rfl hdJ0_length_8abf5 rfl ⟨rfl, rfl⟩ ⟨Nat.le_of_ble_eq_true rfl, Nat.le_of_ble_eq_true rfl⟩ rfl [.int (nI q)] rfl (Nat.le_of_ble_eq_true rfl) dX3_isWord_18 ⟨Nat.zero_le _, Nat.zero_le _⟩) (fun H locs hP hS => ?_)
    refine lv_topE (nI (wdN.getD i 0)) rfl ?_
    refine lv_icmp_eq (tgt := 26) C.1.1 C.1.2.1 dX3_isWord_21 (by decide) (fun c_2 => ?_) (fun c_2 => ?_)
    · rw [show (nI q = nI (wdN.getD i 0)) = (q = wdN.getD i 0) from propext (nI_eq (a := q) (b := wdN.getD i 0) (by omega) (by omega))] at c_2
      refine lv_iconst (v := 0) C.1.1 C.1.2.1 dX3_isWord_26 rfl ?_
      refine lv_istore_n (lv' := [(2, .int 0), (0, .ref (gA g 41)), (1, .ref (gK g i))]) C.1.1 C.1.2.1 dX3_isWord_27 rfl hl (by decide) rfl (fun ls hl => ?_)
      have lp_28 : ∀ (k_28 k : Nat), k ≤ wdN.getD i 0 → (wdN.getD i 0) + 1 ≤ k + k_28 → ∀ (H : Heap) (locs : List Loc) (ls : Array Slot), (∀ t, t < k → B (q0 + t) = chW i t) → va_P g.1 vwCl (wl g n v) H → va_S (wA g n) s.heap H locs → lv_has ls 3 [(0, .ref (gA g 41)), (1, .ref (gK g i)), (2, .int (nI k))] → W p l e rmX3_isWord s m args below meth c H locs 0 0 (MQ below (QB g n (wdP B T q0 (hsW.getD i 0)) v) args s 0 0 (wA g n)) (F0 m 28 ls []) := by
        clear hP hS hl
        intro k_28
        induction k_28 with
        | zero => exact fun k h1 h2 => absurd h2 (by omega)
        | succ k_28 ih_28 =>
          intro k hi_28 hk_28 H locs ls hm hP hS hl
          refine lv_iload_n C.1.1 C.1.2.1 dX3_isWord_28 rfl (lv_at hl 2 rfl) ?_
          refine lv_aload_n C.1.1 C.1.2.1 dX3_isWord_29 rfl (lv_at hl 1 rfl) ?_
          refine a_F hS (run_K C hP hS hl.1 i hi [] (kJ0_length_8abf5 l g n v i hi) gX3_isWord_J0_length_8abf5 rfl hdJ0_length_8abf5 rfl ⟨rfl, rfl⟩ ⟨Nat.le_of_ble_eq_true rfl, Nat.le_of_ble_eq_true rfl⟩ rfl [.int (nI k)] rfl (Nat.le_of_ble_eq_true rfl) dX3_isWord_30 ⟨Nat.zero_le _, Nat.zero_le _⟩) (fun H locs hP hS => ?_)
          refine lv_topE (nI (wdN.getD i 0)) rfl ?_
          refine lv_icmp_ge (tgt := 63) C.1.1 C.1.2.1 dX3_isWord_33 (by decide) (fun c_3 => ?_) (fun c_3 => ?_)
          · rw [show (nI (wdN.getD i 0) ≤ nI k) = (wdN.getD i 0 ≤ k) from propext (nI_leI (a := wdN.getD i 0) (b := k) (by omega) (by omega))] at c_3
            refine lv_iconst (v := 1) C.1.1 C.1.2.1 dX3_isWord_63 rfl ?_
            exact t_1 C rfl hP hS (⟨hk1, hX.trans ((word_iff hi hlet).mpr ⟨c_2, fun t ht => hm t (by omega)⟩)⟩) rfl dX3_isWord_64
          · rw [show (nI (wdN.getD i 0) ≤ nI k) = (wdN.getD i 0 ≤ k) from propext (nI_leI (a := wdN.getD i 0) (b := k) (by omega) (by omega))] at c_3
            refine lv_aload_n C.1.1 C.1.2.1 dX3_isWord_36 rfl (lv_at hl 0 rfl) ?_
            refine r_get C hP 41 3 (Nat.lt_of_lt_of_le (by decide) hn) rfl (by decide) rfl hi3 0 (by decide) (List.mem_of_getElem? (i := 4) rfl) rfl (val := .ref (gA g 42)) rfl dX3_isWord_37 ?_
            refine lv_aload_n C.1.1 C.1.2.1 dX3_isWord_40 rfl (lv_at hl 0 rfl) ?_
            refine r_get C hP 41 3 (Nat.lt_of_lt_of_le (by decide) hn) rfl (by decide) rfl hi3 3 (by decide) (List.mem_of_getElem? (i := 3) rfl) rfl (val := .int (v.1 41 3)) rfl dX3_isWord_41 ?_
            refine lv_topE (nI q0) h3 ?_
            refine lv_iload_n C.1.1 C.1.2.1 dX3_isWord_44 rfl (lv_at hl 2 rfl) ?_
            refine lv_iadd C.1.1 C.1.2.1 dX3_isWord_45 ?_
            refine lv_topE (nI (q0 + k)) (nI_add q0 k) ?_
            refine r_bald C hP 42 (Nat.lt_of_lt_of_le (by decide) hn) rfl (q0 + k) rfl (N := 120) rfl rfl (by omega) dX3_isWord_46 ?_
            refine lv_topE (B (q0 + k)) (hB (q0 + k) (by omega)) ?_
            refine lv_aload_n C.1.1 C.1.2.1 dX3_isWord_47 rfl (lv_at hl 1 rfl) ?_
            refine lv_iload_n C.1.1 C.1.2.1 dX3_isWord_48 rfl (lv_at hl 2 rfl) ?_
            refine a_F hS (run_K C hP hS hl.1 i hi [.int (nI k)] (kJ0_charAt_5068e l g n v i hi k (by omega)) gX3_isWord_J0_charAt_5068e rfl hdJ0_charAt_5068e rfl ⟨rfl, rfl⟩ ⟨Nat.le_of_ble_eq_true rfl, Nat.le_of_ble_eq_true rfl⟩ rfl [.int (B (q0 + k))] rfl (Nat.le_of_ble_eq_true rfl) dX3_isWord_49 ⟨Nat.zero_le _, Nat.zero_le _⟩) (fun H locs hP hS => ?_)
            refine lv_icmp_eq (tgt := 57) C.1.1 C.1.2.1 dX3_isWord_52 (by decide) (fun c_4 => ?_) (fun c_4 => ?_)
            · skip
              refine lv_iinc (v := nI (k + 1)) (lv' := [(2, .int (nI (k + 1))), (0, .ref (gA g 41)), (1, .ref (gK g i))]) C.1.1 C.1.2.1 dX3_isWord_57 hl (k := 2) rfl (nI_1 k) (by decide) rfl (fun ls hl => ?_)
              refine lv_goto (tgt := 28) C.1.1 C.1.2.1 dX3_isWord_60 (by decide) ?_
              exact ih_28 (k + 1) (by omega) (by omega) _ _ _ (fun t ht => if h9 : t < k then hm t h9 else by rw [show t = k by omega]; exact c_4) hP hS (lv_sub hl [1, 2, 0] rfl)
            · skip
              refine lv_iconst (v := 0) C.1.1 C.1.2.1 dX3_isWord_55 rfl ?_
              exact t_0 C rfl hP hS (fun z => c_4 (((word_iff hi hlet).mp (hX.symm.trans z.2)).2 k (by omega))) rfl dX3_isWord_56
      exact lp_28 (wdN.getD i 0 + 1) 0 (Nat.zero_le _) (by omega) _ _ _ (fun t ht => absurd ht (Nat.not_lt_zero t)) hP hS (lv_sub hl [1, 2, 0] rfl)
    · rw [show (nI q = nI (wdN.getD i 0)) = (q = wdN.getD i 0) from propext (nI_eq (a := q) (b := wdN.getD i 0) (by omega) (by omega))] at c_2
      refine lv_iconst (v := 0) C.1.1 C.1.2.1 dX3_isWord_24 rfl ?_
      exact t_0 C rfl hP hS (fun z => c_2 ((word_iff hi hlet).mp (hX.symm.trans z.2)).1) rfl dX3_isWord_25

abbrev rmX4_wordOf : Room := { frames := 0, cells := 0, slots := 0, locals := 0 }
set_option maxHeartbeats 4000000 in
set_option maxRecDepth 100000 in
theorem kX4_wordOf (l : Launch) (g : GG) (n : Nat) (v : SV) (kk : Nat) (hk : kk < 7) : Met l yX4_wordOf wsX4_wordOf rmX4_wordOf (PW g n v [.int (nI kk)]) (QS g n (wdO.getD kk 0) v) 0 0 (wA g n) := by
  refine Met.begin RX4 rfl (by decide) rfl (Nat.le_of_ble_eq_true rfl) ?_
  intro p e s m args below meth c ls ha C hP hS hl
  have hn : 64 ≤ n := C.2.1.1.2.1
  have hl : lv_has ls 1 [(0, .int (nI kk))] := hl
  have hk7 : kk = 0 ∨ kk = 1 ∨ kk = 2 ∨ kk = 3 ∨ kk = 4 ∨ kk = 5 ∨ kk = 6 := by omega
  rcases hk7 with rfl | hk7
  · skip
    rw [show nI 0 = 0 from rfl] at hl
    refine lv_iload_n C.1.1 C.1.2.1 dX4_wordOf_0 rfl (lv_at hl 0 rfl) ?_
    refine lv_tableOut (tgt := 58) C.1.1 C.1.2.1 dX4_wordOf_1 (by decide) (by decide) ?_
    refine va_ldcS C.1.1 C.1.2.1 C.1.2.2.2.1 (C.2.1.2.2.2.2.2.2.2.2.2 8 (by decide)) dX4_wordOf_58 ?_
    exact r_sret C rfl hP hS dX4_wordOf_60
  rcases hk7 with rfl | hk7
  · skip
    rw [show nI 1 = 1 from rfl] at hl
    refine lv_iload_n C.1.1 C.1.2.1 dX4_wordOf_0 rfl (lv_at hl 0 rfl) ?_
    refine lv_tableIn (off := 39) (tgt := 40) C.1.1 C.1.2.1 dX4_wordOf_1 (by decide) (by decide) rfl (by decide) ?_
    refine va_ldcS C.1.1 C.1.2.1 C.1.2.2.2.1 (C.2.1.2.2.2.2.2.2.2.2.2 2 (by decide)) dX4_wordOf_40 ?_
    exact r_sret C rfl hP hS dX4_wordOf_42
  rcases hk7 with rfl | hk7
  · skip
    rw [show nI 2 = 2 from rfl] at hl
    refine lv_iload_n C.1.1 C.1.2.1 dX4_wordOf_0 rfl (lv_at hl 0 rfl) ?_
    refine lv_tableIn (off := 42) (tgt := 43) C.1.1 C.1.2.1 dX4_wordOf_1 (by decide) (by decide) rfl (by decide) ?_
    refine va_ldcS C.1.1 C.1.2.1 C.1.2.2.2.1 (C.2.1.2.2.2.2.2.2.2.2.2 3 (by decide)) dX4_wordOf_43 ?_
    exact r_sret C rfl hP hS dX4_wordOf_45
  rcases hk7 with rfl | hk7
  · skip
    rw [show nI 3 = 3 from rfl] at hl
    refine lv_iload_n C.1.1 C.1.2.1 dX4_wordOf_0 rfl (lv_at hl 0 rfl) ?_
    refine lv_tableIn (off := 45) (tgt := 46) C.1.1 C.1.2.1 dX4_wordOf_1 (by decide) (by decide) rfl (by decide) ?_
    refine va_ldcS C.1.1 C.1.2.1 C.1.2.2.2.1 (C.2.1.2.2.2.2.2.2.2.2.2 4 (by decide)) dX4_wordOf_46 ?_
    exact r_sret C rfl hP hS dX4_wordOf_48
  rcases hk7 with rfl | hk7
  · skip
    rw [show nI 4 = 4 from rfl] at hl
    refine lv_iload_n C.1.1 C.1.2.1 dX4_wordOf_0 rfl (lv_at hl 0 rfl) ?_
    refine lv_tableIn (off := 48) (tgt := 49) C.1.1 C.1.2.1 dX4_wordOf_1 (by decide) (by decide) rfl (by decide) ?_
    refine va_ldcS C.1.1 C.1.2.1 C.1.2.2.2.1 (C.2.1.2.2.2.2.2.2.2.2.2 5 (by decide)) dX4_wordOf_49 ?_
    exact r_sret C rfl hP hS dX4_wordOf_51
  rcases hk7 with rfl | hk7
  · skip
    rw [show nI 5 = 5 from rfl] at hl
    refine lv_iload_n C.1.1 C.1.2.1 dX4_wordOf_0 rfl (lv_at hl 0 rfl) ?_
    refine lv_tableIn (off := 51) (tgt := 52) C.1.1 C.1.2.1 dX4_wordOf_1 (by decide) (by decide) rfl (by decide) ?_
    refine va_ldcS C.1.1 C.1.2.1 C.1.2.2.2.1 (C.2.1.2.2.2.2.2.2.2.2.2 6 (by decide)) dX4_wordOf_52 ?_
    exact r_sret C rfl hP hS dX4_wordOf_54
  subst hk7
  rw [show nI 6 = 6 from rfl] at hl
  refine lv_iload_n C.1.1 C.1.2.1 dX4_wordOf_0 rfl (lv_at hl 0 rfl) ?_
  refine lv_tableIn (off := 54) (tgt := 55) C.1.1 C.1.2.1 dX4_wordOf_1 (by decide) (by decide) rfl (by decide) ?_
  refine va_ldcS C.1.1 C.1.2.1 C.1.2.2.2.1 (C.2.1.2.2.2.2.2.2.2.2.2 7 (by decide)) dX4_wordOf_55 ?_
  exact r_sret C rfl hP hS dX4_wordOf_57

