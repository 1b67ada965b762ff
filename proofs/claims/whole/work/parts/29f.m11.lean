abbrev rmX6_letter : Room := { frames := 0, cells := 0, slots := 0, locals := 0 }
set_option maxHeartbeats 4000000 in
set_option maxRecDepth 100000 in
theorem kX6_letter (l : Launch) (g : GG) (n : Nat) (v : SV) (x : Int32) : Met l yX6_letter wsX6_letter rmX6_letter (PW g n v [.int x]) (QF g n (letF x) v) 0 0 (wA g n) := by
  refine Met.begin RX6 rfl (by decide) rfl (Nat.le_of_ble_eq_true rfl) ?_
  intro p e s m args below meth c ls ha C hP hS hl
  have hn : 64 ≤ n := C.2.1.1.2.1
  have hl : lv_has ls 1 [(0, .int x)] := hl
  refine lv_iload_n C.1.1 C.1.2.1 dX6_letter_0 rfl (lv_at hl 0 rfl) ?_
  refine lv_bipush (v := 97) C.1.1 C.1.2.1 dX6_letter_1 rfl ?_
  refine lv_icmp_lt (tgt := 21) C.1.1 C.1.2.1 dX6_letter_3 (by decide) (fun c_1 => ?_) (fun c_1 => ?_)
  · skip
    refine lv_iconst (v := 0) C.1.1 C.1.2.1 dX6_letter_21 rfl ?_
    exact t_F C rfl hP hS (by simp [letF, c_1]) rfl dX6_letter_22
  · skip
    refine lv_iload_n C.1.1 C.1.2.1 dX6_letter_6 rfl (lv_at hl 0 rfl) ?_
    refine lv_bipush (v := 122) C.1.1 C.1.2.1 dX6_letter_7 rfl ?_
    refine lv_icmp_gt (tgt := 21) C.1.1 C.1.2.1 dX6_letter_9 (by decide) (fun c_2 => ?_) (fun c_2 => ?_)
    · skip
      refine lv_iconst (v := 0) C.1.1 C.1.2.1 dX6_letter_21 rfl ?_
      exact t_F C rfl hP hS (by simp [letF, c_1, c_2]) rfl dX6_letter_22
    · skip
      refine lv_iload_n C.1.1 C.1.2.1 dX6_letter_12 rfl (lv_at hl 0 rfl) ?_
      refine lv_bipush (v := 97) C.1.1 C.1.2.1 dX6_letter_13 rfl ?_
      refine lv_isub C.1.1 C.1.2.1 dX6_letter_15 ?_
      refine lv_iconst (v := 1) C.1.1 C.1.2.1 dX6_letter_16 rfl ?_
      refine lv_iadd C.1.1 C.1.2.1 dX6_letter_17 ?_
      refine lv_goto (tgt := 22) C.1.1 C.1.2.1 dX6_letter_18 (by decide) ?_
      exact t_F C rfl hP hS (by simp [letF, c_1, c_2]) rfl dX6_letter_22

abbrev rmX6_isDigit : Room := { frames := 0, cells := 0, slots := 0, locals := 0 }
set_option maxHeartbeats 4000000 in
set_option maxRecDepth 100000 in
theorem kX6_isDigit (l : Launch) (g : GG) (n : Nat) (v : SV) (x : Int32) : Met l yX6_isDigit wsX6_isDigit rmX6_isDigit (PW g n v [.int x]) (QB g n (dgP x) v) 0 0 (wA g n) := by
  refine Met.begin RX6 rfl (by decide) rfl (Nat.le_of_ble_eq_true rfl) ?_
  intro p e s m args below meth c ls ha C hP hS hl
  have hn : 64 ≤ n := C.2.1.1.2.1
  have hl : lv_has ls 1 [(0, .int x)] := hl
  refine lv_iload_n C.1.1 C.1.2.1 dX6_isDigit_0 rfl (lv_at hl 0 rfl) ?_
  refine lv_bipush (v := 48) C.1.1 C.1.2.1 dX6_isDigit_1 rfl ?_
  refine lv_icmp_lt (tgt := 16) C.1.1 C.1.2.1 dX6_isDigit_3 (by decide) (fun c_1 => ?_) (fun c_1 => ?_)
  · skip
    refine lv_iconst (v := 0) C.1.1 C.1.2.1 dX6_isDigit_16 rfl ?_
    exact t_0 C rfl hP hS (by first | exact ⟨fa_nlt (by assumption), fa_nlt (by assumption)⟩ | exact fun h => absurd h.1 (fa_lt_nle (by assumption)) | exact fun h => absurd h.2 (fa_lt_nle (by assumption))) rfl dX6_isDigit_17
  · skip
    refine lv_iload_n C.1.1 C.1.2.1 dX6_isDigit_6 rfl (lv_at hl 0 rfl) ?_
    refine lv_bipush (v := 57) C.1.1 C.1.2.1 dX6_isDigit_7 rfl ?_
    refine lv_icmp_gt (tgt := 16) C.1.1 C.1.2.1 dX6_isDigit_9 (by decide) (fun c_2 => ?_) (fun c_2 => ?_)
    · skip
      refine lv_iconst (v := 0) C.1.1 C.1.2.1 dX6_isDigit_16 rfl ?_
      exact t_0 C rfl hP hS (by first | exact ⟨fa_nlt (by assumption), fa_nlt (by assumption)⟩ | exact fun h => absurd h.1 (fa_lt_nle (by assumption)) | exact fun h => absurd h.2 (fa_lt_nle (by assumption))) rfl dX6_isDigit_17
    · skip
      refine lv_iconst (v := 1) C.1.1 C.1.2.1 dX6_isDigit_12 rfl ?_
      refine lv_goto (tgt := 17) C.1.1 C.1.2.1 dX6_isDigit_13 (by decide) ?_
      exact t_1 C rfl hP hS (by first | exact ⟨fa_nlt (by assumption), fa_nlt (by assumption)⟩ | exact fun h => absurd h.1 (fa_lt_nle (by assumption)) | exact fun h => absurd h.2 (fa_lt_nle (by assumption))) rfl dX6_isDigit_17

abbrev rmX6_byteAt : Room := { frames := 0, cells := 0, slots := 0, locals := 0 }
set_option maxHeartbeats 4000000 in
set_option maxRecDepth 100000 in
theorem kX6_byteAt (l : Launch) (g : GG) (n : Nat) (v : SV) (j : Nat) (hj : j ≤ 200) (T : Nat) (hT : v.1 53 7 = nI T) (hT2 : T ≤ 120) : Met l yX6_byteAt wsX6_byteAt rmX6_byteAt (PW g n v [.ref (gA g 53), .int (nI j)]) (QF g n (bB v T j) v) 0 0 (wA g n) := by
  refine Met.begin RX6 rfl (by decide) rfl (Nat.le_of_ble_eq_true rfl) ?_
  intro p e s m args below meth c ls ha C hP hS hl
  have hn : 64 ≤ n := C.2.1.1.2.1
  have hi6 : ∀ w ∈ u_ws RX6 TX6 17, w ∈ wsX6_byteAt := by decide +kernel
  have hl : lv_has ls 2 [(0, .ref (gA g 53)), (1, .int (nI j))] := hl
  refine lv_iload_n C.1.1 C.1.2.1 dX6_byteAt_0 rfl (lv_at hl 1 rfl) ?_
  refine lv_aload_n C.1.1 C.1.2.1 dX6_byteAt_1 rfl (lv_at hl 0 rfl) ?_
  refine r_get C hP 53 6 (Nat.lt_of_lt_of_le (by decide) hn) rfl (by decide) rfl hi6 7 (by decide) (List.mem_of_getElem? (i := 1) rfl) rfl (val := .int (v.1 53 7)) rfl dX6_byteAt_2 ?_
  refine lv_topE (nI T) hT ?_
  refine lv_icmp_ge (tgt := 17) C.1.1 C.1.2.1 dX6_byteAt_5 (by decide) (fun c_1 => ?_) (fun c_1 => ?_)
  · rw [show (nI T ≤ nI j) = (T ≤ j) from propext (nI_leI (a := T) (b := j) (by omega) (by omega))] at c_1
    refine lv_iconst (v := (-1)) C.1.1 C.1.2.1 dX6_byteAt_17 rfl ?_
    exact t_F C rfl hP hS (by rw [bB, if_neg (by omega)]) rfl dX6_byteAt_18
  · rw [show (nI T ≤ nI j) = (T ≤ j) from propext (nI_leI (a := T) (b := j) (by omega) (by omega))] at c_1
    refine lv_aload_n C.1.1 C.1.2.1 dX6_byteAt_8 rfl (lv_at hl 0 rfl) ?_
    refine r_get C hP 53 6 (Nat.lt_of_lt_of_le (by decide) hn) rfl (by decide) rfl hi6 6 (by decide) (List.mem_of_getElem? (i := 2) rfl) rfl (val := .ref (gA g 59)) rfl dX6_byteAt_9 ?_
    refine lv_iload_n C.1.1 C.1.2.1 dX6_byteAt_12 rfl (lv_at hl 1 rfl) ?_
    refine r_bald C hP 59 (Nat.lt_of_lt_of_le (by decide) hn) rfl j rfl (N := 120) rfl rfl (by omega) dX6_byteAt_13 ?_
    refine lv_goto (tgt := 18) C.1.1 C.1.2.1 dX6_byteAt_14 (by decide) ?_
    exact t_F C rfl hP hS (by rw [bB, if_pos (by omega)]) rfl dX6_byteAt_18

abbrev rmX6_next : Room := { frames := 1, cells := 0, slots := 0, locals := 21 }
set_option maxHeartbeats 4000000 in
set_option maxRecDepth 100000 in
theorem kX6_next (l : Launch) (g : GG) (n : Nat) (v : SV) (a : Nat) (T : Nat) (hT : v.1 53 7 = nI T) (hT2 : T ≤ 120) (hat : v.1 53 8 = nI a) (ha2 : a ≤ T) : Met l yX6_next wsX6_next rmX6_next (PW g n v [.ref (gA g 53)]) (QG g n (nextT v T a)) 0 0 (wA g n) := by
  refine Met.begin RX6 rfl (by decide) rfl (Nat.le_of_ble_eq_true rfl) ?_
  intro p e s m args below meth c ls ha C hP hS hl
  have hn : 64 ≤ n := C.2.1.1.2.1
  have hi6 : ∀ w ∈ u_ws RX6 TX6 17, w ∈ wsX6_next := by decide +kernel
  have hl : lv_has ls 2 [(0, .ref (gA g 53))] := hl
  have hP : va_P g.1 vwCl (wl g n (tokV v (nI a) (v.1 53 9) (v.1 53 10) v.2)) s.heap := by rw [tok_self hat]; exact hP
  have lp_0 : ∀ (k_0 i : Nat), i ≤ T → T + 1 ≤ i + k_0 → ∀ (H : Heap) (locs : List Loc) (ls : Array Slot), (a ≤ i) → (∀ t, a ≤ t → t < i → bB v T t = 32) → va_P g.1 vwCl (wl g n (tokV v (nI i) (v.1 53 9) (v.1 53 10) v.2)) H → va_S (wA g n) s.heap H locs → lv_has ls 2 [(0, .ref (gA g 53))] → W p l e rmX6_next s m args below meth c H locs 0 0 (MQ below (QG g n (nextT v T a)) args s 0 0 (wA g n)) (F0 m 0 ls []) := by
    clear hP hS hl
    intro k_0
    induction k_0 with
    | zero => exact fun i h1 h2 => absurd h2 (by omega)
    | succ k_0 ih_0 =>
      intro i hi_0 hk_0 H locs ls hai hsk hP hS hl
      refine lv_aload_n C.1.1 C.1.2.1 dX6_next_0 rfl (lv_at hl 0 rfl) ?_
      refine lv_aload_n C.1.1 C.1.2.1 dX6_next_1 rfl (lv_at hl 0 rfl) ?_
      refine r_get C hP 53 6 (Nat.lt_of_lt_of_le (by decide) hn) rfl (by decide) rfl hi6 8 (by decide) (List.mem_of_getElem? (i := 1) rfl) rfl (val := .int ((tokV v (nI i) (v.1 53 9) (v.1 53 10) v.2).1 53 8)) rfl dX6_next_2 ?_
      refine lv_topE (nI i) rfl ?_
      refine a_F hS (run_V C hP hS hl.1 53 6 (Nat.lt_of_lt_of_le (by decide) hn) rfl (by decide) rfl [.int (nI i)] (kX6_byteAt l g n (tokV v (nI i) (v.1 53 9) (v.1 53 10) v.2) i (by omega) T hT hT2) gX6_next_X6_byteAt rfl hdX6_byteAt rfl ⟨rfl, rfl⟩ ⟨Nat.le_of_ble_eq_true rfl, Nat.le_of_ble_eq_true rfl⟩ rfl [] rfl (Nat.le_of_ble_eq_true rfl) dX6_next_5 ⟨Nat.zero_le _, Nat.zero_le _⟩) (fun H locs hP hS => ?_)
      refine lv_topE (bB v T i) rfl ?_
      refine lv_bipush (v := 32) C.1.1 C.1.2.1 dX6_next_8 rfl ?_
      refine lv_icmp_ne (tgt := 26) C.1.1 C.1.2.1 dX6_next_10 (by decide) (fun c_1 => ?_) (fun c_1 => ?_)
      · skip
        have hc1 : skp (bB v T) T a = i := skp_eq hsk c_1 hi_0 hai
        refine lv_aload_n C.1.1 C.1.2.1 dX6_next_26 rfl (lv_at hl 0 rfl) ?_
        refine lv_aload_n C.1.1 C.1.2.1 dX6_next_27 rfl (lv_at hl 0 rfl) ?_
        refine r_get C hP 53 6 (Nat.lt_of_lt_of_le (by decide) hn) rfl (by decide) rfl hi6 8 (by decide) (List.mem_of_getElem? (i := 1) rfl) rfl (val := .int ((tokV v (nI i) (v.1 53 9) (v.1 53 10) v.2).1 53 8)) rfl dX6_next_28 ?_
        refine lv_topE (nI i) rfl ?_
        refine r_put C hP hS 53 6 (Nat.lt_of_lt_of_le (by decide) hn) rfl (by decide) rfl hi6 tyX6 tyX6_ok nmX6 10 (by decide) (List.mem_of_getElem? (i := 2) rfl) rfl rfl rfl rfl rfl (Nat.le_of_ble_eq_true rfl) dX6_next_31 (fun H locs hP hS => ?_)
        rw [show up (tokV v (nI i) (v.1 53 9) (v.1 53 10) v.2) 53 10 (nI i) = tokV v (nI i) (v.1 53 9) (nI i) v.2 from tok_10 _ _ _ _ _ _] at hP
        refine lv_aload_n C.1.1 C.1.2.1 dX6_next_34 rfl (lv_at hl 0 rfl) ?_
        refine lv_lconst (v := 0) C.1.1 C.1.2.1 dX6_next_35 rfl ?_
        refine r_putL C hP hS hi6 (List.mem_of_getElem? (i := 3) rfl) dX6_next_36 (fun H locs hP hS => ?_)
        rw [show upL (tokV v (nI i) (v.1 53 9) (nI i) v.2) 0 = tokV v (nI i) (v.1 53 9) (nI i) 0 from tok_L _ _ _ _ _ _] at hP
        refine lv_aload_n C.1.1 C.1.2.1 dX6_next_39 rfl (lv_at hl 0 rfl) ?_
        refine lv_aload_n C.1.1 C.1.2.1 dX6_next_40 rfl (lv_at hl 0 rfl) ?_
        refine r_get C hP 53 6 (Nat.lt_of_lt_of_le (by decide) hn) rfl (by decide) rfl hi6 8 (by decide) (List.mem_of_getElem? (i := 1) rfl) rfl (val := .int ((tokV v (nI i) (v.1 53 9) (nI i) 0).1 53 8)) rfl dX6_next_41 ?_
        refine lv_topE (nI i) rfl ?_
        refine a_F hS (run_V C hP hS hl.1 53 6 (Nat.lt_of_lt_of_le (by decide) hn) rfl (by decide) rfl [.int (nI i)] (kX6_byteAt l g n (tokV v (nI i) (v.1 53 9) (nI i) 0) i (by omega) T hT hT2) gX6_next_X6_byteAt rfl hdX6_byteAt rfl ⟨rfl, rfl⟩ ⟨Nat.le_of_ble_eq_true rfl, Nat.le_of_ble_eq_true rfl⟩ rfl [] rfl (Nat.le_of_ble_eq_true rfl) dX6_next_44 ⟨Nat.zero_le _, Nat.zero_le _⟩) (fun H locs hP hS => ?_)
        refine lv_topE (bB v T i) rfl ?_
        refine lv_istore_n (lv' := [(1, .int (bB v T i)), (0, .ref (gA g 53))]) C.1.1 C.1.2.1 dX6_next_47 rfl hl (by decide) rfl (fun ls hl => ?_)
        refine lv_aload_n C.1.1 C.1.2.1 dX6_next_48 rfl (lv_at hl 1 rfl) ?_
        refine r_get C hP 53 6 (Nat.lt_of_lt_of_le (by decide) hn) rfl (by decide) rfl hi6 8 (by decide) (List.mem_of_getElem? (i := 1) rfl) rfl (val := .int ((tokV v (nI i) (v.1 53 9) (nI i) 0).1 53 8)) rfl dX6_next_49 ?_
        refine lv_topE (nI i) rfl ?_
        refine lv_aload_n C.1.1 C.1.2.1 dX6_next_52 rfl (lv_at hl 1 rfl) ?_
        refine r_get C hP 53 6 (Nat.lt_of_lt_of_le (by decide) hn) rfl (by decide) rfl hi6 7 (by decide) (List.mem_of_getElem? (i := 4) rfl) rfl (val := .int ((tokV v (nI i) (v.1 53 9) (nI i) 0).1 53 7)) rfl dX6_next_53 ?_
        refine lv_topE (nI T) hT ?_
        refine lv_icmp_ne (tgt := 67) C.1.1 C.1.2.1 dX6_next_56 (by decide) (fun c_4 => ?_) (fun c_4 => ?_)
        · rw [show (nI i = nI T) = (i = T) from propext (nI_eq (a := i) (b := T) (by omega) (by omega))] at c_4
          refine lv_iload_n C.1.1 C.1.2.1 dX6_next_67 rfl (lv_at hl 0 rfl) ?_
          refine lv_bipush (v := 59) C.1.1 C.1.2.1 dX6_next_68 rfl ?_
          refine lv_icmp_ne (tgt := 91) C.1.1 C.1.2.1 dX6_next_70 (by decide) (fun c_5 => ?_) (fun c_5 => ?_)
          · skip
            refine lv_iload_n C.1.1 C.1.2.1 dX6_next_91 rfl (lv_at hl 0 rfl) ?_
            refine a_F hS (run_S C hP hS hl.1 [.int (bB v T i)] (kX6_letter l g n (tokV v (nI i) (v.1 53 9) (nI i) 0) (bB v T i)) gX6_next_X6_letter hdX6_letter rfl ⟨rfl, rfl⟩ ⟨Nat.le_of_ble_eq_true rfl, Nat.le_of_ble_eq_true rfl⟩ rfl [] rfl (Nat.le_of_ble_eq_true rfl) dX6_next_92 ⟨Nat.zero_le _, Nat.zero_le _⟩) (fun H locs hP hS => ?_)
            refine lv_if_le (tgt := 173) C.1.1 C.1.2.1 dX6_next_95 (by decide) (fun c_6 => ?_) (fun c_6 => ?_)
            · skip
              refine lv_iload_n C.1.1 C.1.2.1 dX6_next_173 rfl (lv_at hl 0 rfl) ?_
              refine a_B hS (run_S C hP hS hl.1 [.int (bB v T i)] (kX6_isDigit l g n (tokV v (nI i) (v.1 53 9) (nI i) 0) (bB v T i)) gX6_next_X6_isDigit hdX6_isDigit rfl ⟨rfl, rfl⟩ ⟨Nat.le_of_ble_eq_true rfl, Nat.le_of_ble_eq_true rfl⟩ rfl [] rfl (Nat.le_of_ble_eq_true rfl) dX6_next_174 ⟨Nat.zero_le _, Nat.zero_le _⟩) (fun b_7 H locs hP hS => ?_) (fun b_7 H locs hP hS => ?_)
              · skip
                refine lv_if_eq (tgt := 256) C.1.1 C.1.2.1 dX6_next_177 (by decide) (fun c_8 => absurd c_8 (by decide)) (fun _ => ?_)
                refine lv_aload_n C.1.1 C.1.2.1 dX6_next_180 rfl (lv_at hl 1 rfl) ?_
                refine lv_iconst (v := 2) C.1.1 C.1.2.1 dX6_next_181 rfl ?_
                refine r_put C hP hS 53 6 (Nat.lt_of_lt_of_le (by decide) hn) rfl (by decide) rfl hi6 tyX6 tyX6_ok nmX6 9 (by decide) (List.mem_of_getElem? (i := 5) rfl) rfl rfl rfl rfl rfl (Nat.le_of_ble_eq_true rfl) dX6_next_182 (fun H locs hP hS => ?_)
                rw [show up (tokV v (nI i) (v.1 53 9) (nI i) 0) 53 9 2 = tokV v (nI i) 2 (nI i) 0 from tok_9 _ _ _ _ _ _] at hP
                have lp_185 : ∀ (k_185 q : Nat), q ≤ T - i → (T - i) + 1 ≤ q + k_185 → ∀ (H : Heap) (locs : List Loc) (ls : Array Slot), (∀ t, t < q → dgP (bB v T (i + t))) → va_P g.1 vwCl (wl g n (tokV v (nI (i + q)) 2 (nI i) (numV (bB v T) i q))) H → va_S (wA g n) s.heap H locs → lv_has ls 2 [(0, .ref (gA g 53)), (1, .int (bB v T i))] → W p l e rmX6_next s m args below meth c H locs 0 0 (MQ below (QG g n (nextT v T a)) args s 0 0 (wA g n)) (F0 m 185 ls []) := by
                  clear hP hS hl
                  intro k_185
                  induction k_185 with
                  | zero => exact fun q h1 h2 => absurd h2 (by omega)
                  | succ k_185 ih_185 =>
                    intro q hi_185 hk_185 H locs ls hwd hP hS hl
                    refine lv_aload_n C.1.1 C.1.2.1 dX6_next_185 rfl (lv_at hl 0 rfl) ?_
                    refine lv_aload_n C.1.1 C.1.2.1 dX6_next_186 rfl (lv_at hl 0 rfl) ?_
                    refine r_get C hP 53 6 (Nat.lt_of_lt_of_le (by decide) hn) rfl (by decide) rfl hi6 8 (by decide) (List.mem_of_getElem? (i := 1) rfl) rfl (val := .int ((tokV v (nI (i + q)) 2 (nI i) (numV (bB v T) i q)).1 53 8)) rfl dX6_next_187 ?_
                    refine lv_topE (nI (i + q)) rfl ?_
                    refine a_F hS (run_V C hP hS hl.1 53 6 (Nat.lt_of_lt_of_le (by decide) hn) rfl (by decide) rfl [.int (nI (i + q))] (kX6_byteAt l g n (tokV v (nI (i + q)) 2 (nI i) (numV (bB v T) i q)) (i + q) (by omega) T hT hT2) gX6_next_X6_byteAt rfl hdX6_byteAt rfl ⟨rfl, rfl⟩ ⟨Nat.le_of_ble_eq_true rfl, Nat.le_of_ble_eq_true rfl⟩ rfl [] rfl (Nat.le_of_ble_eq_true rfl) dX6_next_190 ⟨Nat.zero_le _, Nat.zero_le _⟩) (fun H locs hP hS => ?_)
                    refine lv_topE (bB v T (i + q)) rfl ?_
                    refine a_B hS (run_S C hP hS hl.1 [.int (bB v T (i + q))] (kX6_isDigit l g n (tokV v (nI (i + q)) 2 (nI i) (numV (bB v T) i q)) (bB v T (i + q))) gX6_next_X6_isDigit hdX6_isDigit rfl ⟨rfl, rfl⟩ ⟨Nat.le_of_ble_eq_true rfl, Nat.le_of_ble_eq_true rfl⟩ rfl [] rfl (Nat.le_of_ble_eq_true rfl) dX6_next_193 ⟨Nat.zero_le _, Nat.zero_le _⟩) (fun b_10 H locs hP hS => ?_) (fun b_10 H locs hP hS => ?_)
                    · skip
                      have hqT := b_10
                      have hqT2 := bB_lt (dgP_ne hqT)
                      refine lv_if_eq (tgt := 261) C.1.1 C.1.2.1 dX6_next_196 (by decide) (fun c_11 => absurd c_11 (by decide)) (fun _ => ?_)
                      refine lv_aload_n C.1.1 C.1.2.1 dX6_next_199 rfl (lv_at hl 0 rfl) ?_
                      refine lv_aload_n C.1.1 C.1.2.1 dX6_next_200 rfl (lv_at hl 0 rfl) ?_
                      refine r_get C hP 53 6 (Nat.lt_of_lt_of_le (by decide) hn) rfl (by decide) rfl hi6 11 (by decide) (List.mem_of_getElem? (i := 3) rfl) rfl (val := .long ((tokV v (nI (i + q)) 2 (nI i) (numV (bB v T) i q)).2)) rfl dX6_next_201 ?_
                      refine lv_topLE (numV (bB v T) i q) rfl ?_
                      refine lv_ldc2 (v := 9999) C.1.1 C.1.2.1 C.1.2.2.2.1 (C.1.2.2.2.2 _ (List.mem_of_getElem? (i := 8) rfl)) dX6_next_204 ?_
                      refine W.lcmp C.1.1 C.1.2.1 dX6_next_207 ?_
                      refine lv_if_le (tgt := 218) C.1.1 C.1.2.1 dX6_next_208 (by decide) (fun c_12 => ?_) (fun c_12 => ?_)
                      · rw [lg_cmp_le] at c_12
                        refine lv_aload_n C.1.1 C.1.2.1 dX6_next_218 rfl (lv_at hl 0 rfl) ?_
                        refine r_get C hP 53 6 (Nat.lt_of_lt_of_le (by decide) hn) rfl (by decide) rfl hi6 11 (by decide) (List.mem_of_getElem? (i := 3) rfl) rfl (val := .long ((tokV v (nI (i + q)) 2 (nI i) (numV (bB v T) i q)).2)) rfl dX6_next_219 ?_
                        refine lv_topLE (numV (bB v T) i q) rfl ?_
                        refine lv_ldc2 (v := 10) C.1.1 C.1.2.1 C.1.2.2.2.1 (C.1.2.2.2.2 _ (List.mem_of_getElem? (i := 9) rfl)) dX6_next_222 ?_
                        refine lv_lmul C.1.1 C.1.2.1 dX6_next_225 ?_
                        refine lv_aload_n C.1.1 C.1.2.1 dX6_next_226 rfl (lv_at hl 0 rfl) ?_
                        refine lv_aload_n C.1.1 C.1.2.1 dX6_next_227 rfl (lv_at hl 0 rfl) ?_
                        refine r_get C hP 53 6 (Nat.lt_of_lt_of_le (by decide) hn) rfl (by decide) rfl hi6 8 (by decide) (List.mem_of_getElem? (i := 1) rfl) rfl (val := .int ((tokV v (nI (i + q)) 2 (nI i) (numV (bB v T) i q)).1 53 8)) rfl dX6_next_228 ?_
                        refine lv_topE (nI (i + q)) rfl ?_
                        refine a_F hS (run_V C hP hS hl.1 53 6 (Nat.lt_of_lt_of_le (by decide) hn) rfl (by decide) rfl [.int (nI (i + q))] (kX6_byteAt l g n (tokV v (nI (i + q)) 2 (nI i) (numV (bB v T) i q)) (i + q) (by omega) T hT hT2) gX6_next_X6_byteAt rfl hdX6_byteAt rfl ⟨rfl, rfl⟩ ⟨Nat.le_of_ble_eq_true rfl, Nat.le_of_ble_eq_true rfl⟩ rfl [.long ((numV (bB v T) i q) * 10), .ref (gA g 53)] rfl (Nat.le_of_ble_eq_true rfl) dX6_next_231 ⟨Nat.zero_le _, Nat.zero_le _⟩) (fun H locs hP hS => ?_)
                        refine lv_topE (bB v T (i + q)) rfl ?_
                        refine lv_i2l (v := (bB v T (i + q)).toInt64) C.1.1 C.1.2.1 dX6_next_234 rfl ?_
                        refine lv_ladd C.1.1 C.1.2.1 dX6_next_235 ?_
                        refine lv_ldc2 (v := 48) C.1.1 C.1.2.1 C.1.2.2.2.1 (C.1.2.2.2.2 _ (List.mem_of_getElem? (i := 10) rfl)) dX6_next_236 ?_
                        refine lv_lsub C.1.1 C.1.2.1 dX6_next_239 ?_
                        refine r_putL C hP hS hi6 (List.mem_of_getElem? (i := 3) rfl) dX6_next_240 (fun H locs hP hS => ?_)
                        rw [show upL (tokV v (nI (i + q)) 2 (nI i) (numV (bB v T) i q)) ((((numV (bB v T) i q) * 10) + ((bB v T (i + q)).toInt64)) - 48) = tokV v (nI (i + q)) 2 (nI i) ((((numV (bB v T) i q) * 10) + ((bB v T (i + q)).toInt64)) - 48) from tok_L _ _ _ _ _ _] at hP
                        refine lv_aload_n C.1.1 C.1.2.1 dX6_next_243 rfl (lv_at hl 0 rfl) ?_
                        refine lv_dup C.1.1 C.1.2.1 dX6_next_244 rfl ?_
                        refine r_get C hP 53 6 (Nat.lt_of_lt_of_le (by decide) hn) rfl (by decide) rfl hi6 8 (by decide) (List.mem_of_getElem? (i := 1) rfl) rfl (val := .int ((tokV v (nI (i + q)) 2 (nI i) ((((numV (bB v T) i q) * 10) + ((bB v T (i + q)).toInt64)) - 48)).1 53 8)) rfl dX6_next_245 ?_
                        refine lv_topE (nI (i + q)) rfl ?_
                        refine lv_iconst (v := 1) C.1.1 C.1.2.1 dX6_next_248 rfl ?_
                        refine lv_iadd C.1.1 C.1.2.1 dX6_next_249 ?_
                        refine lv_topE (nI ((i + q) + 1)) (nI_add (i + q) 1) ?_
                        refine r_put C hP hS 53 6 (Nat.lt_of_lt_of_le (by decide) hn) rfl (by decide) rfl hi6 tyX6 tyX6_ok nmX6 8 (by decide) (List.mem_of_getElem? (i := 1) rfl) rfl rfl rfl rfl rfl (Nat.le_of_ble_eq_true rfl) dX6_next_250 (fun H locs hP hS => ?_)
                        rw [show up (tokV v (nI (i + q)) 2 (nI i) ((((numV (bB v T) i q) * 10) + ((bB v T (i + q)).toInt64)) - 48)) 53 8 (nI ((i + q) + 1)) = tokV v (nI ((i + q) + 1)) 2 (nI i) ((((numV (bB v T) i q) * 10) + ((bB v T (i + q)).toInt64)) - 48) from tok_8 _ _ _ _ _ _] at hP
                        refine lv_goto (tgt := 185) C.1.1 C.1.2.1 dX6_next_253 (by decide) ?_
                        exact ih_185 (q + 1) (by omega) (by omega) _ _ _ (fun t ht => if h9 : t < q then hwd t h9 else by rw [show t = q by omega]; exact hqT) (by rw [show numV (bB v T) i (q + 1) = _ from numV_a c_12]; exact hP) hS (lv_sub hl [0, 1] rfl)
                      · rw [lg_cmp_le] at c_12
                        refine lv_aload_n C.1.1 C.1.2.1 dX6_next_211 rfl (lv_at hl 0 rfl) ?_
                        refine r_get C hP 53 6 (Nat.lt_of_lt_of_le (by decide) hn) rfl (by decide) rfl hi6 11 (by decide) (List.mem_of_getElem? (i := 3) rfl) rfl (val := .long ((tokV v (nI (i + q)) 2 (nI i) (numV (bB v T) i q)).2)) rfl dX6_next_212 ?_
                        refine lv_topLE (numV (bB v T) i q) rfl ?_
                        refine lv_goto (tgt := 240) C.1.1 C.1.2.1 dX6_next_215 (by decide) ?_
                        refine r_putL C hP hS hi6 (List.mem_of_getElem? (i := 3) rfl) dX6_next_240 (fun H locs hP hS => ?_)
                        rw [show upL (tokV v (nI (i + q)) 2 (nI i) (numV (bB v T) i q)) (numV (bB v T) i q) = tokV v (nI (i + q)) 2 (nI i) (numV (bB v T) i q) from tok_L _ _ _ _ _ _] at hP
                        refine lv_aload_n C.1.1 C.1.2.1 dX6_next_243 rfl (lv_at hl 0 rfl) ?_
                        refine lv_dup C.1.1 C.1.2.1 dX6_next_244 rfl ?_
                        refine r_get C hP 53 6 (Nat.lt_of_lt_of_le (by decide) hn) rfl (by decide) rfl hi6 8 (by decide) (List.mem_of_getElem? (i := 1) rfl) rfl (val := .int ((tokV v (nI (i + q)) 2 (nI i) (numV (bB v T) i q)).1 53 8)) rfl dX6_next_245 ?_
                        refine lv_topE (nI (i + q)) rfl ?_
                        refine lv_iconst (v := 1) C.1.1 C.1.2.1 dX6_next_248 rfl ?_
                        refine lv_iadd C.1.1 C.1.2.1 dX6_next_249 ?_
                        refine lv_topE (nI ((i + q) + 1)) (nI_add (i + q) 1) ?_
                        refine r_put C hP hS 53 6 (Nat.lt_of_lt_of_le (by decide) hn) rfl (by decide) rfl hi6 tyX6 tyX6_ok nmX6 8 (by decide) (List.mem_of_getElem? (i := 1) rfl) rfl rfl rfl rfl rfl (Nat.le_of_ble_eq_true rfl) dX6_next_250 (fun H locs hP hS => ?_)
                        rw [show up (tokV v (nI (i + q)) 2 (nI i) (numV (bB v T) i q)) 53 8 (nI ((i + q) + 1)) = tokV v (nI ((i + q) + 1)) 2 (nI i) (numV (bB v T) i q) from tok_8 _ _ _ _ _ _] at hP
                        refine lv_goto (tgt := 185) C.1.1 C.1.2.1 dX6_next_253 (by decide) ?_
                        exact ih_185 (q + 1) (by omega) (by omega) _ _ _ (fun t ht => if h9 : t < q then hwd t h9 else by rw [show t = q by omega]; exact hqT) (by rw [show numV (bB v T) i (q + 1) = _ from numV_b c_12]; exact hP) hS (lv_sub hl [0, 1] rfl)
                    · skip
                      have hq1 : nmE (bB v T) T i = i + q := nmE_eq hwd b_10 (by omega)
                      refine lv_if_eq (tgt := 261) C.1.1 C.1.2.1 dX6_next_196 (by decide) (fun _ => ?_) (fun c_17 => absurd c_17 (by decide))
                      exact t_G C rfl hP hS (by rw [nextT, hc1]; exact (tk_num (by omega) c_5 c_6 b_7 hq1).symm) dX6_next_261
                exact lp_185 (T - i + 1) 0 (Nat.zero_le _) (by omega) _ _ _ (fun t ht => absurd ht (Nat.not_lt_zero t)) hP hS (lv_sub hl [1, 0] rfl)
              · skip
                refine lv_if_eq (tgt := 256) C.1.1 C.1.2.1 dX6_next_177 (by decide) (fun _ => ?_) (fun c_18 => absurd c_18 (by decide))
                refine lv_aload_n C.1.1 C.1.2.1 dX6_next_256 rfl (lv_at hl 1 rfl) ?_
                refine lv_iconst (v := 4) C.1.1 C.1.2.1 dX6_next_257 rfl ?_
                refine r_put C hP hS 53 6 (Nat.lt_of_lt_of_le (by decide) hn) rfl (by decide) rfl hi6 tyX6 tyX6_ok nmX6 9 (by decide) (List.mem_of_getElem? (i := 5) rfl) rfl rfl rfl rfl rfl (Nat.le_of_ble_eq_true rfl) dX6_next_258 (fun H locs hP hS => ?_)
                rw [show up (tokV v (nI i) (v.1 53 9) (nI i) 0) 53 9 4 = tokV v (nI i) 4 (nI i) 0 from tok_9 _ _ _ _ _ _] at hP
                exact t_G C rfl hP hS (by rw [nextT, hc1]; exact (tk_odd (by omega) c_5 c_6 b_7).symm) dX6_next_261
            · skip
              refine lv_aload_n C.1.1 C.1.2.1 dX6_next_98 rfl (lv_at hl 1 rfl) ?_
              refine lv_iconst (v := 1) C.1.1 C.1.2.1 dX6_next_99 rfl ?_
              refine r_put C hP hS 53 6 (Nat.lt_of_lt_of_le (by decide) hn) rfl (by decide) rfl hi6 tyX6 tyX6_ok nmX6 9 (by decide) (List.mem_of_getElem? (i := 5) rfl) rfl rfl rfl rfl rfl (Nat.le_of_ble_eq_true rfl) dX6_next_100 (fun H locs hP hS => ?_)
              rw [show up (tokV v (nI i) (v.1 53 9) (nI i) 0) 53 9 1 = tokV v (nI i) 1 (nI i) 0 from tok_9 _ _ _ _ _ _] at hP
              have lp_103 : ∀ (k_103 q : Nat), q ≤ T - i → (T - i) + 1 ≤ q + k_103 → ∀ (H : Heap) (locs : List Loc) (ls : Array Slot), (∀ t, t < q → 0 < letF (bB v T (i + t))) → va_P g.1 vwCl (wl g n (tokV v (nI (i + q)) 1 (nI i) (wordV (bB v T) i q))) H → va_S (wA g n) s.heap H locs → lv_has ls 2 [(0, .ref (gA g 53)), (1, .int (bB v T i))] → W p l e rmX6_next s m args below meth c H locs 0 0 (MQ below (QG g n (nextT v T a)) args s 0 0 (wA g n)) (F0 m 103 ls []) := by
                clear hP hS hl
                intro k_103
                induction k_103 with
                | zero => exact fun q h1 h2 => absurd h2 (by omega)
                | succ k_103 ih_103 =>
                  intro q hi_103 hk_103 H locs ls hwd hP hS hl
                  refine lv_aload_n C.1.1 C.1.2.1 dX6_next_103 rfl (lv_at hl 0 rfl) ?_
                  refine lv_aload_n C.1.1 C.1.2.1 dX6_next_104 rfl (lv_at hl 0 rfl) ?_
                  refine r_get C hP 53 6 (Nat.lt_of_lt_of_le (by decide) hn) rfl (by decide) rfl hi6 8 (by decide) (List.mem_of_getElem? (i := 1) rfl) rfl (val := .int ((tokV v (nI (i + q)) 1 (nI i) (wordV (bB v T) i q)).1 53 8)) rfl dX6_next_105 ?_
                  refine lv_topE (nI (i + q)) rfl ?_
                  refine a_F hS (run_V C hP hS hl.1 53 6 (Nat.lt_of_lt_of_le (by decide) hn) rfl (by decide) rfl [.int (nI (i + q))] (kX6_byteAt l g n (tokV v (nI (i + q)) 1 (nI i) (wordV (bB v T) i q)) (i + q) (by omega) T hT hT2) gX6_next_X6_byteAt rfl hdX6_byteAt rfl ⟨rfl, rfl⟩ ⟨Nat.le_of_ble_eq_true rfl, Nat.le_of_ble_eq_true rfl⟩ rfl [] rfl (Nat.le_of_ble_eq_true rfl) dX6_next_108 ⟨Nat.zero_le _, Nat.zero_le _⟩) (fun H locs hP hS => ?_)
                  refine lv_topE (bB v T (i + q)) rfl ?_
                  refine a_F hS (run_S C hP hS hl.1 [.int (bB v T (i + q))] (kX6_letter l g n (tokV v (nI (i + q)) 1 (nI i) (wordV (bB v T) i q)) (bB v T (i + q))) gX6_next_X6_letter hdX6_letter rfl ⟨rfl, rfl⟩ ⟨Nat.le_of_ble_eq_true rfl, Nat.le_of_ble_eq_true rfl⟩ rfl [] rfl (Nat.le_of_ble_eq_true rfl) dX6_next_111 ⟨Nat.zero_le _, Nat.zero_le _⟩) (fun H locs hP hS => ?_)
                  refine lv_if_le (tgt := 261) C.1.1 C.1.2.1 dX6_next_114 (by decide) (fun c_21 => ?_) (fun c_21 => ?_)
                  · skip
                    have hq1 : wrE (bB v T) T i = i + q := wrE_eq hwd (fun h => absurd c_21 (fa_lt_nle h)) (by omega)
                    exact t_G C rfl hP hS (by rw [nextT, hc1]; exact (tk_word (by omega) c_5 c_6 hq1).symm) dX6_next_261
                  · skip
                    have hqT := fa_nle c_21
                    have hqT2 := bB_lt (letF_ne hqT)
                    refine lv_aload_n C.1.1 C.1.2.1 dX6_next_117 rfl (lv_at hl 0 rfl) ?_
                    refine lv_aload_n C.1.1 C.1.2.1 dX6_next_118 rfl (lv_at hl 0 rfl) ?_
                    refine r_get C hP 53 6 (Nat.lt_of_lt_of_le (by decide) hn) rfl (by decide) rfl hi6 11 (by decide) (List.mem_of_getElem? (i := 3) rfl) rfl (val := .long ((tokV v (nI (i + q)) 1 (nI i) (wordV (bB v T) i q)).2)) rfl dX6_next_119 ?_
                    refine lv_topLE (wordV (bB v T) i q) rfl ?_
                    refine lv_ldc2 (v := 100000000000000000) C.1.1 C.1.2.1 C.1.2.2.2.1 (C.1.2.2.2.2 _ (List.mem_of_getElem? (i := 6) rfl)) dX6_next_122 ?_
                    refine W.lcmp C.1.1 C.1.2.1 dX6_next_125 ?_
                    refine lv_if_le (tgt := 136) C.1.1 C.1.2.1 dX6_next_126 (by decide) (fun c_22 => ?_) (fun c_22 => ?_)
                    · rw [lg_cmp_le] at c_22
                      refine lv_aload_n C.1.1 C.1.2.1 dX6_next_136 rfl (lv_at hl 0 rfl) ?_
                      refine r_get C hP 53 6 (Nat.lt_of_lt_of_le (by decide) hn) rfl (by decide) rfl hi6 11 (by decide) (List.mem_of_getElem? (i := 3) rfl) rfl (val := .long ((tokV v (nI (i + q)) 1 (nI i) (wordV (bB v T) i q)).2)) rfl dX6_next_137 ?_
                      refine lv_topLE (wordV (bB v T) i q) rfl ?_
                      refine lv_ldc2 (v := 27) C.1.1 C.1.2.1 C.1.2.2.2.1 (C.1.2.2.2.2 _ (List.mem_of_getElem? (i := 7) rfl)) dX6_next_140 ?_
                      refine lv_lmul C.1.1 C.1.2.1 dX6_next_143 ?_
                      refine lv_aload_n C.1.1 C.1.2.1 dX6_next_144 rfl (lv_at hl 0 rfl) ?_
                      refine lv_aload_n C.1.1 C.1.2.1 dX6_next_145 rfl (lv_at hl 0 rfl) ?_
                      refine r_get C hP 53 6 (Nat.lt_of_lt_of_le (by decide) hn) rfl (by decide) rfl hi6 8 (by decide) (List.mem_of_getElem? (i := 1) rfl) rfl (val := .int ((tokV v (nI (i + q)) 1 (nI i) (wordV (bB v T) i q)).1 53 8)) rfl dX6_next_146 ?_
                      refine lv_topE (nI (i + q)) rfl ?_
                      refine a_F hS (run_V C hP hS hl.1 53 6 (Nat.lt_of_lt_of_le (by decide) hn) rfl (by decide) rfl [.int (nI (i + q))] (kX6_byteAt l g n (tokV v (nI (i + q)) 1 (nI i) (wordV (bB v T) i q)) (i + q) (by omega) T hT hT2) gX6_next_X6_byteAt rfl hdX6_byteAt rfl ⟨rfl, rfl⟩ ⟨Nat.le_of_ble_eq_true rfl, Nat.le_of_ble_eq_true rfl⟩ rfl [.long ((wordV (bB v T) i q) * 27), .ref (gA g 53)] rfl (Nat.le_of_ble_eq_true rfl) dX6_next_149 ⟨Nat.zero_le _, Nat.zero_le _⟩) (fun H locs hP hS => ?_)
                      refine lv_topE (bB v T (i + q)) rfl ?_
                      refine a_F hS (run_S C hP hS hl.1 [.int (bB v T (i + q))] (kX6_letter l g n (tokV v (nI (i + q)) 1 (nI i) (wordV (bB v T) i q)) (bB v T (i + q))) gX6_next_X6_letter hdX6_letter rfl ⟨rfl, rfl⟩ ⟨Nat.le_of_ble_eq_true rfl, Nat.le_of_ble_eq_true rfl⟩ rfl [.long ((wordV (bB v T) i q) * 27), .ref (gA g 53)] rfl (Nat.le_of_ble_eq_true rfl) dX6_next_152 ⟨Nat.zero_le _, Nat.zero_le _⟩) (fun H locs hP hS => ?_)
                      refine lv_i2l (v := (letF (bB v T (i + q))).toInt64) C.1.1 C.1.2.1 dX6_next_155 rfl ?_
                      refine lv_ladd C.1.1 C.1.2.1 dX6_next_156 ?_
                      refine r_putL C hP hS hi6 (List.mem_of_getElem? (i := 3) rfl) dX6_next_157 (fun H locs hP hS => ?_)
                      rw [show upL (tokV v (nI (i + q)) 1 (nI i) (wordV (bB v T) i q)) (((wordV (bB v T) i q) * 27) + ((letF (bB v T (i + q))).toInt64)) = tokV v (nI (i + q)) 1 (nI i) (((wordV (bB v T) i q) * 27) + ((letF (bB v T (i + q))).toInt64)) from tok_L _ _ _ _ _ _] at hP
                      refine lv_aload_n C.1.1 C.1.2.1 dX6_next_160 rfl (lv_at hl 0 rfl) ?_
                      refine lv_dup C.1.1 C.1.2.1 dX6_next_161 rfl ?_
                      refine r_get C hP 53 6 (Nat.lt_of_lt_of_le (by decide) hn) rfl (by decide) rfl hi6 8 (by decide) (List.mem_of_getElem? (i := 1) rfl) rfl (val := .int ((tokV v (nI (i + q)) 1 (nI i) (((wordV (bB v T) i q) * 27) + ((letF (bB v T (i + q))).toInt64))).1 53 8)) rfl dX6_next_162 ?_
                      refine lv_topE (nI (i + q)) rfl ?_
                      refine lv_iconst (v := 1) C.1.1 C.1.2.1 dX6_next_165 rfl ?_
                      refine lv_iadd C.1.1 C.1.2.1 dX6_next_166 ?_
                      refine lv_topE (nI ((i + q) + 1)) (nI_add (i + q) 1) ?_
                      refine r_put C hP hS 53 6 (Nat.lt_of_lt_of_le (by decide) hn) rfl (by decide) rfl hi6 tyX6 tyX6_ok nmX6 8 (by decide) (List.mem_of_getElem? (i := 1) rfl) rfl rfl rfl rfl rfl (Nat.le_of_ble_eq_true rfl) dX6_next_167 (fun H locs hP hS => ?_)
                      rw [show up (tokV v (nI (i + q)) 1 (nI i) (((wordV (bB v T) i q) * 27) + ((letF (bB v T (i + q))).toInt64))) 53 8 (nI ((i + q) + 1)) = tokV v (nI ((i + q) + 1)) 1 (nI i) (((wordV (bB v T) i q) * 27) + ((letF (bB v T (i + q))).toInt64)) from tok_8 _ _ _ _ _ _] at hP
                      refine lv_goto (tgt := 103) C.1.1 C.1.2.1 dX6_next_170 (by decide) ?_
                      exact ih_103 (q + 1) (by omega) (by omega) _ _ _ (fun t ht => if h9 : t < q then hwd t h9 else by rw [show t = q by omega]; exact hqT) (by rw [show wordV (bB v T) i (q + 1) = _ from wordV_a c_22]; exact hP) hS (lv_sub hl [0, 1] rfl)
                    · rw [lg_cmp_le] at c_22
                      refine lv_aload_n C.1.1 C.1.2.1 dX6_next_129 rfl (lv_at hl 0 rfl) ?_
                      refine r_get C hP 53 6 (Nat.lt_of_lt_of_le (by decide) hn) rfl (by decide) rfl hi6 11 (by decide) (List.mem_of_getElem? (i := 3) rfl) rfl (val := .long ((tokV v (nI (i + q)) 1 (nI i) (wordV (bB v T) i q)).2)) rfl dX6_next_130 ?_
                      refine lv_topLE (wordV (bB v T) i q) rfl ?_
                      refine lv_goto (tgt := 157) C.1.1 C.1.2.1 dX6_next_133 (by decide) ?_
                      refine r_putL C hP hS hi6 (List.mem_of_getElem? (i := 3) rfl) dX6_next_157 (fun H locs hP hS => ?_)
                      rw [show upL (tokV v (nI (i + q)) 1 (nI i) (wordV (bB v T) i q)) (wordV (bB v T) i q) = tokV v (nI (i + q)) 1 (nI i) (wordV (bB v T) i q) from tok_L _ _ _ _ _ _] at hP
                      refine lv_aload_n C.1.1 C.1.2.1 dX6_next_160 rfl (lv_at hl 0 rfl) ?_
                      refine lv_dup C.1.1 C.1.2.1 dX6_next_161 rfl ?_
                      refine r_get C hP 53 6 (Nat.lt_of_lt_of_le (by decide) hn) rfl (by decide) rfl hi6 8 (by decide) (List.mem_of_getElem? (i := 1) rfl) rfl (val := .int ((tokV v (nI (i + q)) 1 (nI i) (wordV (bB v T) i q)).1 53 8)) rfl dX6_next_162 ?_
                      refine lv_topE (nI (i + q)) rfl ?_
                      refine lv_iconst (v := 1) C.1.1 C.1.2.1 dX6_next_165 rfl ?_
                      refine lv_iadd C.1.1 C.1.2.1 dX6_next_166 ?_
                      refine lv_topE (nI ((i + q) + 1)) (nI_add (i + q) 1) ?_
                      refine r_put C hP hS 53 6 (Nat.lt_of_lt_of_le (by decide) hn) rfl (by decide) rfl hi6 tyX6 tyX6_ok nmX6 8 (by decide) (List.mem_of_getElem? (i := 1) rfl) rfl rfl rfl rfl rfl (Nat.le_of_ble_eq_true rfl) dX6_next_167 (fun H locs hP hS => ?_)
                      rw [show up (tokV v (nI (i + q)) 1 (nI i) (wordV (bB v T) i q)) 53 8 (nI ((i + q) + 1)) = tokV v (nI ((i + q) + 1)) 1 (nI i) (wordV (bB v T) i q) from tok_8 _ _ _ _ _ _] at hP
                      refine lv_goto (tgt := 103) C.1.1 C.1.2.1 dX6_next_170 (by decide) ?_
                      exact ih_103 (q + 1) (by omega) (by omega) _ _ _ (fun t ht => if h9 : t < q then hwd t h9 else by rw [show t = q by omega]; exact hqT) (by rw [show wordV (bB v T) i (q + 1) = _ from wordV_b c_22]; exact hP) hS (lv_sub hl [0, 1] rfl)
              exact lp_103 (T - i + 1) 0 (Nat.zero_le _) (by omega) _ _ _ (fun t ht => absurd ht (Nat.not_lt_zero t)) hP hS (lv_sub hl [1, 0] rfl)
          · skip
            refine lv_aload_n C.1.1 C.1.2.1 dX6_next_73 rfl (lv_at hl 1 rfl) ?_
            refine lv_iconst (v := 3) C.1.1 C.1.2.1 dX6_next_74 rfl ?_
            refine r_put C hP hS 53 6 (Nat.lt_of_lt_of_le (by decide) hn) rfl (by decide) rfl hi6 tyX6 tyX6_ok nmX6 9 (by decide) (List.mem_of_getElem? (i := 5) rfl) rfl rfl rfl rfl rfl (Nat.le_of_ble_eq_true rfl) dX6_next_75 (fun H locs hP hS => ?_)
            rw [show up (tokV v (nI i) (v.1 53 9) (nI i) 0) 53 9 3 = tokV v (nI i) 3 (nI i) 0 from tok_9 _ _ _ _ _ _] at hP
            refine lv_aload_n C.1.1 C.1.2.1 dX6_next_78 rfl (lv_at hl 1 rfl) ?_
            refine lv_dup C.1.1 C.1.2.1 dX6_next_79 rfl ?_
            refine r_get C hP 53 6 (Nat.lt_of_lt_of_le (by decide) hn) rfl (by decide) rfl hi6 8 (by decide) (List.mem_of_getElem? (i := 1) rfl) rfl (val := .int ((tokV v (nI i) 3 (nI i) 0).1 53 8)) rfl dX6_next_80 ?_
            refine lv_topE (nI i) rfl ?_
            refine lv_iconst (v := 1) C.1.1 C.1.2.1 dX6_next_83 rfl ?_
            refine lv_iadd C.1.1 C.1.2.1 dX6_next_84 ?_
            refine lv_topE (nI (i + 1)) (nI_add i 1) ?_
            refine r_put C hP hS 53 6 (Nat.lt_of_lt_of_le (by decide) hn) rfl (by decide) rfl hi6 tyX6 tyX6_ok nmX6 8 (by decide) (List.mem_of_getElem? (i := 1) rfl) rfl rfl rfl rfl rfl (Nat.le_of_ble_eq_true rfl) dX6_next_85 (fun H locs hP hS => ?_)
            rw [show up (tokV v (nI i) 3 (nI i) 0) 53 8 (nI (i + 1)) = tokV v (nI (i + 1)) 3 (nI i) 0 from tok_8 _ _ _ _ _ _] at hP
            refine lv_goto (tgt := 261) C.1.1 C.1.2.1 dX6_next_88 (by decide) ?_
            exact t_G C rfl hP hS (by rw [nextT, hc1]; exact (tk_sign (by omega) c_5).symm) dX6_next_261
        · rw [show (nI i = nI T) = (i = T) from propext (nI_eq (a := i) (b := T) (by omega) (by omega))] at c_4
          refine lv_aload_n C.1.1 C.1.2.1 dX6_next_59 rfl (lv_at hl 1 rfl) ?_
          refine lv_iconst (v := 0) C.1.1 C.1.2.1 dX6_next_60 rfl ?_
          refine r_put C hP hS 53 6 (Nat.lt_of_lt_of_le (by decide) hn) rfl (by decide) rfl hi6 tyX6 tyX6_ok nmX6 9 (by decide) (List.mem_of_getElem? (i := 5) rfl) rfl rfl rfl rfl rfl (Nat.le_of_ble_eq_true rfl) dX6_next_61 (fun H locs hP hS => ?_)
          rw [show up (tokV v (nI i) (v.1 53 9) (nI i) 0) 53 9 0 = tokV v (nI i) 0 (nI i) 0 from tok_9 _ _ _ _ _ _] at hP
          refine lv_goto (tgt := 261) C.1.1 C.1.2.1 dX6_next_64 (by decide) ?_
          exact t_G C rfl hP hS (by rw [nextT, hc1]; exact (tk_end (by omega)).symm) dX6_next_261
      · skip
        have hc32 := c_1
        have hiT := bB_lt (by rw [c_1]; decide)
        refine lv_aload_n C.1.1 C.1.2.1 dX6_next_13 rfl (lv_at hl 0 rfl) ?_
        refine lv_dup C.1.1 C.1.2.1 dX6_next_14 rfl ?_
        refine r_get C hP 53 6 (Nat.lt_of_lt_of_le (by decide) hn) rfl (by decide) rfl hi6 8 (by decide) (List.mem_of_getElem? (i := 1) rfl) rfl (val := .int ((tokV v (nI i) (v.1 53 9) (v.1 53 10) v.2).1 53 8)) rfl dX6_next_15 ?_
        refine lv_topE (nI i) rfl ?_
        refine lv_iconst (v := 1) C.1.1 C.1.2.1 dX6_next_18 rfl ?_
        refine lv_iadd C.1.1 C.1.2.1 dX6_next_19 ?_
        refine lv_topE (nI (i + 1)) (nI_add i 1) ?_
        refine r_put C hP hS 53 6 (Nat.lt_of_lt_of_le (by decide) hn) rfl (by decide) rfl hi6 tyX6 tyX6_ok nmX6 8 (by decide) (List.mem_of_getElem? (i := 1) rfl) rfl rfl rfl rfl rfl (Nat.le_of_ble_eq_true rfl) dX6_next_20 (fun H locs hP hS => ?_)
        rw [show up (tokV v (nI i) (v.1 53 9) (v.1 53 10) v.2) 53 8 (nI (i + 1)) = tokV v (nI (i + 1)) (v.1 53 9) (v.1 53 10) v.2 from tok_8 _ _ _ _ _ _] at hP
        refine lv_goto (tgt := 0) C.1.1 C.1.2.1 dX6_next_23 (by decide) ?_
        exact ih_0 (i + 1) (by omega) (by omega) _ _ _ (by omega) (fun t h1 h2 => if h9 : t < i then hsk t h1 h9 else by rw [show t = i by omega]; exact hc32) hP hS (lv_sub hl [0] rfl)
  exact lp_0 (T + 1) a ha2 (by omega) _ _ _ (Nat.le_refl a) (fun t h1 h2 => absurd h2 (by omega)) hP hS (lv_sub hl [0] rfl)

