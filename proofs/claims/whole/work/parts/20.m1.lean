abbrev rmX6_in : Room := { frames := 0, cells := 0, slots := 0, locals := 0 }
set_option maxHeartbeats 4000000 in
set_option maxRecDepth 100000 in
theorem kX6_in (l : Launch) (g : GG) (n : Nat) (v : SV) (x y z : Int64) : Met l yX6_in wsX6_in rmX6_in (PW g n v [.long x, .long y, .long z]) (QB g n (y ≤ x ∧ x ≤ z) v) 0 0 (wA g n) := by
  refine Met.begin RX6 rfl (by decide) rfl (Nat.le_of_ble_eq_true rfl) ?_
  intro p e s m args below meth c ls ha C hP hS hl
  have hn : 64 ≤ n := C.2.1.1.2.1
  have hl : lv_has ls 6 [(0, .long x), (2, .long y), (4, .long z)] := hl
  refine lv_lload_n C.1.1 C.1.2.1 dX6_in_0 rfl (lv_at hl 0 rfl) ?_
  refine lv_lload_n C.1.1 C.1.2.1 dX6_in_1 rfl (lv_at hl 1 rfl) ?_
  refine W.lcmp C.1.1 C.1.2.1 dX6_in_2 ?_
  refine lv_if_lt (tgt := 17) C.1.1 C.1.2.1 dX6_in_3 (by decide) (fun c_1 => ?_) (fun c_1 => ?_)
  · rw [lg_cmp_lt] at c_1
    refine lv_iconst (v := 0) C.1.1 C.1.2.1 dX6_in_17 rfl ?_
    exact t_0 C rfl hP hS (by first | exact ⟨by assumption, by assumption⟩ | exact ⟨fa_nlt64 (by assumption), fa_nlt64 (by assumption)⟩ | exact fun h => absurd h.1 (fa_lt_nle64 (by assumption)) | exact fun h => absurd h.2 (fa_lt_nle64 (by assumption))) rfl dX6_in_18
  · rw [lg_cmp_lt] at c_1
    refine lv_lload_n C.1.1 C.1.2.1 dX6_in_6 rfl (lv_at hl 0 rfl) ?_
    refine lv_lload C.1.1 C.1.2.1 dX6_in_7 (lv_at hl 2 rfl) ?_
    refine W.lcmp C.1.1 C.1.2.1 dX6_in_9 ?_
    refine lv_if_gt (tgt := 17) C.1.1 C.1.2.1 dX6_in_10 (by decide) (fun c_2 => ?_) (fun c_2 => ?_)
    · rw [lg_cmp_gt] at c_2
      refine lv_iconst (v := 0) C.1.1 C.1.2.1 dX6_in_17 rfl ?_
      exact t_0 C rfl hP hS (by first | exact ⟨by assumption, by assumption⟩ | exact ⟨fa_nlt64 (by assumption), fa_nlt64 (by assumption)⟩ | exact fun h => absurd h.1 (fa_lt_nle64 (by assumption)) | exact fun h => absurd h.2 (fa_lt_nle64 (by assumption))) rfl dX6_in_18
    · rw [lg_cmp_gt] at c_2
      refine lv_iconst (v := 1) C.1.1 C.1.2.1 dX6_in_13 rfl ?_
      refine lv_goto (tgt := 18) C.1.1 C.1.2.1 dX6_in_14 (by decide) ?_
      exact t_1 C rfl hP hS (by first | exact ⟨by assumption, by assumption⟩ | exact ⟨fa_nlt64 (by assumption), fa_nlt64 (by assumption)⟩ | exact fun h => absurd h.1 (fa_lt_nle64 (by assumption)) | exact fun h => absurd h.2 (fa_lt_nle64 (by assumption))) rfl dX6_in_18

abbrev rmX6_held : Room := { frames := 0, cells := 0, slots := 0, locals := 0 }
set_option maxHeartbeats 4000000 in
set_option maxRecDepth 100000 in
theorem kX6_held (l : Launch) (g : GG) (n : Nat) (v : SV) (x y z : Int32) : Met l yX6_held wsX6_held rmX6_held (PW g n v [.int x, .int y, .int z]) (QF g n (heldF x y z) v) 0 0 (wA g n) := by
  refine Met.begin RX6 rfl (by decide) rfl (Nat.le_of_ble_eq_true rfl) ?_
  intro p e s m args below meth c ls ha C hP hS hl
  have hn : 64 ≤ n := C.2.1.1.2.1
  have hl : lv_has ls 3 [(0, .int x), (1, .int y), (2, .int z)] := hl
  refine lv_iload_n C.1.1 C.1.2.1 dX6_held_0 rfl (lv_at hl 0 rfl) ?_
  refine lv_iload_n C.1.1 C.1.2.1 dX6_held_1 rfl (lv_at hl 1 rfl) ?_
  refine lv_icmp_ge (tgt := 9) C.1.1 C.1.2.1 dX6_held_2 (by decide) (fun c_1 => ?_) (fun c_1 => ?_)
  · skip
    refine lv_iload_n C.1.1 C.1.2.1 dX6_held_9 rfl (lv_at hl 0 rfl) ?_
    refine lv_iload_n C.1.1 C.1.2.1 dX6_held_10 rfl (lv_at hl 2 rfl) ?_
    refine lv_icmp_le (tgt := 18) C.1.1 C.1.2.1 dX6_held_11 (by decide) (fun c_2 => ?_) (fun c_2 => ?_)
    · skip
      refine lv_iload_n C.1.1 C.1.2.1 dX6_held_18 rfl (lv_at hl 0 rfl) ?_
      exact t_F C rfl hP hS (by simp [heldF, c_1, c_2]) rfl dX6_held_19
    · skip
      refine lv_iload_n C.1.1 C.1.2.1 dX6_held_14 rfl (lv_at hl 2 rfl) ?_
      refine lv_goto (tgt := 19) C.1.1 C.1.2.1 dX6_held_15 (by decide) ?_
      exact t_F C rfl hP hS (by simp [heldF, c_1, c_2]) rfl dX6_held_19
  · skip
    refine lv_iload_n C.1.1 C.1.2.1 dX6_held_5 rfl (lv_at hl 1 rfl) ?_
    refine lv_goto (tgt := 19) C.1.1 C.1.2.1 dX6_held_6 (by decide) ?_
    exact t_F C rfl hP hS (by simp [heldF, c_1]) rfl dX6_held_19

abbrev rmX6_size : Room := { frames := 0, cells := 0, slots := 0, locals := 0 }
set_option maxHeartbeats 4000000 in
set_option maxRecDepth 100000 in
theorem kX6_size (l : Launch) (g : GG) (n : Nat) (v : SV) (x : Int32) : Met l yX6_size wsX6_size rmX6_size (PW g n v [.int x]) (QF g n (sizeF x) v) 0 0 (wA g n) := by
  refine Met.begin RX6 rfl (by decide) rfl (Nat.le_of_ble_eq_true rfl) ?_
  intro p e s m args below meth c ls ha C hP hS hl
  have hn : 64 ≤ n := C.2.1.1.2.1
  have hl : lv_has ls 1 [(0, .int x)] := hl
  refine lv_iload_n C.1.1 C.1.2.1 dX6_size_0 rfl (lv_at hl 0 rfl) ?_
  refine lv_if_ge (tgt := 9) C.1.1 C.1.2.1 dX6_size_1 (by decide) (fun c_1 => ?_) (fun c_1 => ?_)
  · skip
    refine lv_iload_n C.1.1 C.1.2.1 dX6_size_9 rfl (lv_at hl 0 rfl) ?_
    exact t_F C rfl hP hS (by simp [sizeF, c_1]) rfl dX6_size_10
  · skip
    refine lv_iload_n C.1.1 C.1.2.1 dX6_size_4 rfl (lv_at hl 0 rfl) ?_
    refine lv_ineg C.1.1 C.1.2.1 dX6_size_5 ?_
    refine lv_goto (tgt := 10) C.1.1 C.1.2.1 dX6_size_6 (by decide) ?_
    exact t_F C rfl hP hS (by simp [sizeF, c_1]) rfl dX6_size_10

abbrev rmX6_its : Room := { frames := 0, cells := 0, slots := 0, locals := 0 }
set_option maxHeartbeats 4000000 in
set_option maxRecDepth 100000 in
theorem kX6_its (l : Launch) (g : GG) (n : Nat) (v : SV) (r w : Nat) (hr : r < 8) (hw : w < 6) : Met l yX6_its wsX6_its rmX6_its (PW g n v [.ref (gA g 53), .int (nI r), .int (nI w)]) (QF g n (rowM (v.1 54) r w) v) 0 0 (wA g n) := by
  refine Met.begin RX6 rfl (by decide) rfl (Nat.le_of_ble_eq_true rfl) ?_
  intro p e s m args below meth c ls ha C hP hS hl
  have hn : 64 ≤ n := C.2.1.1.2.1
  have hi6 : ∀ w ∈ u_ws RX6 TX6 17, w ∈ wsX6_its := by decide +kernel
  have hl : lv_has ls 3 [(0, .ref (gA g 53)), (1, .int (nI r)), (2, .int (nI w))] := hl
  refine lv_aload_n C.1.1 C.1.2.1 dX6_its_0 rfl (lv_at hl 0 rfl) ?_
  refine r_get C hP 53 6 (Nat.lt_of_lt_of_le (by decide) hn) rfl (by decide) rfl hi6 0 (by decide) (List.mem_of_getElem? (i := 1) rfl) rfl (val := .ref (gA g 54)) rfl dX6_its_1 ?_
  refine lv_bipush (v := 25) C.1.1 C.1.2.1 dX6_its_4 rfl ?_
  refine lv_bipush (v := 8) C.1.1 C.1.2.1 dX6_its_6 rfl ?_
  refine lv_iload_n C.1.1 C.1.2.1 dX6_its_8 rfl (lv_at hl 2 rfl) ?_
  refine lv_imul C.1.1 C.1.2.1 dX6_its_9 ?_
  refine lv_topE (nI (8 * w)) (pk_mul 8 w) ?_
  refine lv_iadd C.1.1 C.1.2.1 dX6_its_10 ?_
  refine lv_topE (nI (25 + (8 * w))) (nI_add 25 (8 * w)) ?_
  refine lv_iload_n C.1.1 C.1.2.1 dX6_its_11 rfl (lv_at hl 1 rfl) ?_
  refine lv_iadd C.1.1 C.1.2.1 dX6_its_12 ?_
  refine lv_topE (nI ((25 + (8 * w)) + r)) (nI_add (25 + (8 * w)) r) ?_
  refine r_iald C hP 54 (Nat.lt_of_lt_of_le (by decide) hn) rfl ((25 + (8 * w)) + r) rfl (N := 83) rfl (by decide) (by omega) dX6_its_13 ?_
  exact t_F C rfl hP hS rfl rfl dX6_its_14

abbrev rmX6_sets : Room := { frames := 0, cells := 0, slots := 0, locals := 0 }
set_option maxHeartbeats 4000000 in
set_option maxRecDepth 100000 in
theorem kX6_sets (l : Launch) (g : GG) (n : Nat) (v : SV) (r w : Nat) (x : Int32) (hr : r < 8) (hw : w < 6) : Met l yX6_sets wsX6_sets rmX6_sets (PW g n v [.ref (gA g 53), .int (nI r), .int (nI w), .int x]) (QG g n (up v 54 (25 + 8 * w + r) x)) 0 0 (wA g n) := by
  refine Met.begin RX6 rfl (by decide) rfl (Nat.le_of_ble_eq_true rfl) ?_
  intro p e s m args below meth c ls ha C hP hS hl
  have hn : 64 ≤ n := C.2.1.1.2.1
  have hi6 : ∀ w ∈ u_ws RX6 TX6 17, w ∈ wsX6_sets := by decide +kernel
  have hl : lv_has ls 4 [(0, .ref (gA g 53)), (1, .int (nI r)), (2, .int (nI w)), (3, .int x)] := hl
  refine lv_aload_n C.1.1 C.1.2.1 dX6_sets_0 rfl (lv_at hl 0 rfl) ?_
  refine r_get C hP 53 6 (Nat.lt_of_lt_of_le (by decide) hn) rfl (by decide) rfl hi6 0 (by decide) (List.mem_of_getElem? (i := 1) rfl) rfl (val := .ref (gA g 54)) rfl dX6_sets_1 ?_
  refine lv_bipush (v := 25) C.1.1 C.1.2.1 dX6_sets_4 rfl ?_
  refine lv_bipush (v := 8) C.1.1 C.1.2.1 dX6_sets_6 rfl ?_
  refine lv_iload_n C.1.1 C.1.2.1 dX6_sets_8 rfl (lv_at hl 2 rfl) ?_
  refine lv_imul C.1.1 C.1.2.1 dX6_sets_9 ?_
  refine lv_topE (nI (8 * w)) (pk_mul 8 w) ?_
  refine lv_iadd C.1.1 C.1.2.1 dX6_sets_10 ?_
  refine lv_topE (nI (25 + (8 * w))) (nI_add 25 (8 * w)) ?_
  refine lv_iload_n C.1.1 C.1.2.1 dX6_sets_11 rfl (lv_at hl 1 rfl) ?_
  refine lv_iadd C.1.1 C.1.2.1 dX6_sets_12 ?_
  refine lv_topE (nI ((25 + (8 * w)) + r)) (nI_add (25 + (8 * w)) r) ?_
  refine lv_iload_n C.1.1 C.1.2.1 dX6_sets_13 rfl (lv_at hl 3 rfl) ?_
  refine r_iast C hP hS 54 (Nat.lt_of_lt_of_le (by decide) hn) rfl ((25 + (8 * w)) + r) rfl (N := 83) rfl (by decide) (by omega) dX6_sets_14 (fun H locs hP hS => ?_)
  obtain ⟨v_1, hv_1⟩ : ∃ zz, zz = up v 54 ((25 + (8 * w)) + r) x := ⟨_, rfl⟩
  rw [← hv_1] at hP
  exact t_G C rfl hP hS (by assumption) dX6_sets_15

abbrev rmX6_becomes : Room := { frames := 0, cells := 0, slots := 0, locals := 0 }
set_option maxHeartbeats 4000000 in
set_option maxRecDepth 100000 in
theorem kX6_becomes (l : Launch) (g : GG) (n : Nat) (v : SV) (j : Nat) (x : Int32) (hj : j < 83) : Met l yX6_becomes wsX6_becomes rmX6_becomes (PW g n v [.ref (gA g 53), .int (nI j), .int x]) (QF g n (v.1 54 j) (up v 54 j x)) 0 0 (wA g n) := by
  refine Met.begin RX6 rfl (by decide) rfl (Nat.le_of_ble_eq_true rfl) ?_
  intro p e s m args below meth c ls ha C hP hS hl
  have hn : 64 ≤ n := C.2.1.1.2.1
  have hi6 : ∀ w ∈ u_ws RX6 TX6 17, w ∈ wsX6_becomes := by decide +kernel
  have hl : lv_has ls 4 [(0, .ref (gA g 53)), (1, .int (nI j)), (2, .int x)] := hl
  refine lv_aload_n C.1.1 C.1.2.1 dX6_becomes_0 rfl (lv_at hl 0 rfl) ?_
  refine r_get C hP 53 6 (Nat.lt_of_lt_of_le (by decide) hn) rfl (by decide) rfl hi6 0 (by decide) (List.mem_of_getElem? (i := 1) rfl) rfl (val := .ref (gA g 54)) rfl dX6_becomes_1 ?_
  refine lv_iload_n C.1.1 C.1.2.1 dX6_becomes_4 rfl (lv_at hl 1 rfl) ?_
  refine r_iald C hP 54 (Nat.lt_of_lt_of_le (by decide) hn) rfl j rfl (N := 83) rfl (by decide) (by omega) dX6_becomes_5 ?_
  refine lv_istore_n (lv' := [(3, .int (v.1 54 j)), (0, .ref (gA g 53)), (1, .int (nI j)), (2, .int x)]) C.1.1 C.1.2.1 dX6_becomes_6 rfl hl (by decide) rfl (fun ls hl => ?_)
  refine lv_aload_n C.1.1 C.1.2.1 dX6_becomes_7 rfl (lv_at hl 1 rfl) ?_
  refine r_get C hP 53 6 (Nat.lt_of_lt_of_le (by decide) hn) rfl (by decide) rfl hi6 0 (by decide) (List.mem_of_getElem? (i := 1) rfl) rfl (val := .ref (gA g 54)) rfl dX6_becomes_8 ?_
  refine lv_iload_n C.1.1 C.1.2.1 dX6_becomes_11 rfl (lv_at hl 2 rfl) ?_
  refine lv_iload_n C.1.1 C.1.2.1 dX6_becomes_12 rfl (lv_at hl 3 rfl) ?_
  refine r_iast C hP hS 54 (Nat.lt_of_lt_of_le (by decide) hn) rfl j rfl (N := 83) rfl (by decide) (by omega) dX6_becomes_13 (fun H locs hP hS => ?_)
  obtain ⟨v_1, hv_1⟩ : ∃ zz, zz = up v 54 j x := ⟨_, rfl⟩
  rw [← hv_1] at hP
  refine lv_iload_n C.1.1 C.1.2.1 dX6_becomes_14 rfl (lv_at hl 0 rfl) ?_
  exact t_F C rfl hP hS rfl (by assumption) dX6_becomes_15

abbrev rmX6_finds : Room := { frames := 0, cells := 0, slots := 0, locals := 0 }
set_option maxHeartbeats 4000000 in
set_option maxRecDepth 100000 in
theorem kX6_finds (l : Launch) (g : GG) (n : Nat) (v : SV) (j : Nat) (hj : j < 7) : Met l yX6_finds wsX6_finds rmX6_finds (PW g n v [.ref (gA g 53), .int (nI j)]) (QF g n (-1000001 - nI j) (fnd v j)) 0 0 (wA g n) := by
  refine Met.begin RX6 rfl (by decide) rfl (Nat.le_of_ble_eq_true rfl) ?_
  intro p e s m args below meth c ls ha C hP hS hl
  have hn : 64 ≤ n := C.2.1.1.2.1
  have hi6 : ∀ w ∈ u_ws RX6 TX6 17, w ∈ wsX6_finds := by decide +kernel
  have hl : lv_has ls 2 [(0, .ref (gA g 53)), (1, .int (nI j))] := hl
  refine lv_aload_n C.1.1 C.1.2.1 dX6_finds_0 rfl (lv_at hl 0 rfl) ?_
  refine r_get C hP 53 6 (Nat.lt_of_lt_of_le (by decide) hn) rfl (by decide) rfl hi6 5 (by decide) (List.mem_of_getElem? (i := 1) rfl) rfl (val := .ref (gA g 58)) rfl dX6_finds_1 ?_
  refine lv_iload_n C.1.1 C.1.2.1 dX6_finds_4 rfl (lv_at hl 1 rfl) ?_
  refine lv_dup2_11 C.1.1 C.1.2.1 dX6_finds_5 rfl rfl ?_
  refine r_iald C hP 58 (Nat.lt_of_lt_of_le (by decide) hn) rfl j rfl (N := 7) rfl (by decide) (by omega) dX6_finds_6 ?_
  refine lv_iconst (v := 1) C.1.1 C.1.2.1 dX6_finds_7 rfl ?_
  refine lv_iadd C.1.1 C.1.2.1 dX6_finds_8 ?_
  refine r_iast C hP hS 58 (Nat.lt_of_lt_of_le (by decide) hn) rfl j rfl (N := 7) rfl (by decide) (by omega) dX6_finds_9 (fun H locs hP hS => ?_)
  obtain ⟨v_1, hv_1⟩ : ∃ zz, zz = up v 58 j ((v.1 58 j) + 1) := ⟨_, rfl⟩
  rw [← hv_1] at hP
  refine lv_ldc (v := (-1000001)) C.1.1 C.1.2.1 C.1.2.2.2.1 (C.1.2.2.2.2 _ (List.mem_of_getElem? (i := 2) rfl)) dX6_finds_10 ?_
  refine lv_iload_n C.1.1 C.1.2.1 dX6_finds_12 rfl (lv_at hl 1 rfl) ?_
  refine lv_isub C.1.1 C.1.2.1 dX6_finds_13 ?_
  exact t_F C rfl hP hS rfl (by assumption) dX6_finds_14

abbrev rmX6_isAway : Room := { frames := 1, cells := 0, slots := 0, locals := 22 }
set_option maxHeartbeats 4000000 in
set_option maxRecDepth 100000 in
theorem kX6_isAway (l : Launch) (g : GG) (n : Nat) (v : SV) (r : Nat) (hr : r < 8) : Met l yX6_isAway wsX6_isAway rmX6_isAway (PW g n v [.ref (gA g 53), .int (nI r)]) (QB g n ((rowM (v.1 54) r) 5 = 1) v) 0 0 (wA g n) := by
  refine Met.begin RX6 rfl (by decide) rfl (Nat.le_of_ble_eq_true rfl) ?_
  intro p e s m args below meth c ls ha C hP hS hl
  have hn : 64 ≤ n := C.2.1.1.2.1
  have hi6 : ∀ w ∈ u_ws RX6 TX6 17, w ∈ wsX6_isAway := by decide +kernel
  have hl : lv_has ls 2 [(0, .ref (gA g 53)), (1, .int (nI r))] := hl
  refine lv_aload_n C.1.1 C.1.2.1 dX6_isAway_0 rfl (lv_at hl 0 rfl) ?_
  refine lv_iload_n C.1.1 C.1.2.1 dX6_isAway_1 rfl (lv_at hl 1 rfl) ?_
  refine lv_iconst (v := 5) C.1.1 C.1.2.1 dX6_isAway_2 rfl ?_
  refine a_F hS (run_V C hP hS hl.1 53 6 (Nat.lt_of_lt_of_le (by decide) hn) rfl (by decide) rfl [.int (nI r), .int 5] (kX6_its l g n v r 5 (by omega) (by omega)) gX6_isAway_X6_its rfl hdX6_its rfl ⟨rfl, rfl⟩ ⟨Nat.le_of_ble_eq_true rfl, Nat.le_of_ble_eq_true rfl⟩ rfl [] rfl (Nat.le_of_ble_eq_true rfl) dX6_isAway_3 ⟨Nat.zero_le _, Nat.zero_le _⟩) (fun H locs hP hS => ?_)
  refine lv_iconst (v := 1) C.1.1 C.1.2.1 dX6_isAway_6 rfl ?_
  refine lv_icmp_ne (tgt := 14) C.1.1 C.1.2.1 dX6_isAway_7 (by decide) (fun c_1 => ?_) (fun c_1 => ?_)
  · skip
    refine lv_iconst (v := 0) C.1.1 C.1.2.1 dX6_isAway_14 rfl ?_
    exact t_0 C rfl hP hS (by assumption) rfl dX6_isAway_15
  · skip
    refine lv_iconst (v := 1) C.1.1 C.1.2.1 dX6_isAway_10 rfl ?_
    refine lv_goto (tgt := 15) C.1.1 C.1.2.1 dX6_isAway_11 (by decide) ?_
    exact t_1 C rfl hP hS (by assumption) rfl dX6_isAway_15

abbrev rmX6_isWanting : Room := { frames := 1, cells := 0, slots := 0, locals := 22 }
set_option maxHeartbeats 4000000 in
set_option maxRecDepth 100000 in
theorem kX6_isWanting (l : Launch) (g : GG) (n : Nat) (v : SV) (r : Nat) (x : Int32) (hr : r < 8) : Met l yX6_isWanting wsX6_isWanting rmX6_isWanting (PW g n v [.ref (gA g 53), .int (nI r), .int x]) (QB g n (wantF (rowM (v.1 54) r) x) v) 0 0 (wA g n) := by
  refine Met.begin RX6 rfl (by decide) rfl (Nat.le_of_ble_eq_true rfl) ?_
  intro p e s m args below meth c ls ha C hP hS hl
  have hn : 64 ≤ n := C.2.1.1.2.1
  have hi6 : ∀ w ∈ u_ws RX6 TX6 17, w ∈ wsX6_isWanting := by decide +kernel
  have hl : lv_has ls 3 [(0, .ref (gA g 53)), (1, .int (nI r)), (2, .int x)] := hl
  refine lv_aload_n C.1.1 C.1.2.1 dX6_isWanting_0 rfl (lv_at hl 0 rfl) ?_
  refine lv_iload_n C.1.1 C.1.2.1 dX6_isWanting_1 rfl (lv_at hl 1 rfl) ?_
  refine lv_iconst (v := 2) C.1.1 C.1.2.1 dX6_isWanting_2 rfl ?_
  refine a_F hS (run_V C hP hS hl.1 53 6 (Nat.lt_of_lt_of_le (by decide) hn) rfl (by decide) rfl [.int (nI r), .int 2] (kX6_its l g n v r 2 (by omega) (by omega)) gX6_isWanting_X6_its rfl hdX6_its rfl ⟨rfl, rfl⟩ ⟨Nat.le_of_ble_eq_true rfl, Nat.le_of_ble_eq_true rfl⟩ rfl [] rfl (Nat.le_of_ble_eq_true rfl) dX6_isWanting_3 ⟨Nat.zero_le _, Nat.zero_le _⟩) (fun H locs hP hS => ?_)
  refine lv_iload_n C.1.1 C.1.2.1 dX6_isWanting_6 rfl (lv_at hl 2 rfl) ?_
  refine lv_ishr C.1.1 C.1.2.1 dX6_isWanting_7 ?_
  refine lv_iconst (v := 1) C.1.1 C.1.2.1 dX6_isWanting_8 rfl ?_
  refine lv_iand C.1.1 C.1.2.1 dX6_isWanting_9 ?_
  refine lv_iconst (v := 1) C.1.1 C.1.2.1 dX6_isWanting_10 rfl ?_
  refine lv_icmp_ne (tgt := 18) C.1.1 C.1.2.1 dX6_isWanting_11 (by decide) (fun c_1 => ?_) (fun c_1 => ?_)
  · skip
    refine lv_iconst (v := 0) C.1.1 C.1.2.1 dX6_isWanting_18 rfl ?_
    exact t_0 C rfl hP hS (by assumption) rfl dX6_isWanting_19
  · skip
    refine lv_iconst (v := 1) C.1.1 C.1.2.1 dX6_isWanting_14 rfl ?_
    refine lv_goto (tgt := 19) C.1.1 C.1.2.1 dX6_isWanting_15 (by decide) ?_
    exact t_1 C rfl hP hS (by assumption) rfl dX6_isWanting_19

abbrev rmX6_far : Room := { frames := 1, cells := 0, slots := 0, locals := 22 }
set_option maxHeartbeats 4000000 in
set_option maxRecDepth 100000 in
theorem kX6_far (l : Launch) (g : GG) (n : Nat) (v : SV) (r : Nat) (hr : r < 8) : Met l yX6_far wsX6_far rmX6_far (PW g n v [.ref (gA g 53), .int (nI r)]) (QF g n (sizeF ((rowM (v.1 54) r) 1 - v.1 54 3)) v) 0 0 (wA g n) := by
  refine Met.begin RX6 rfl (by decide) rfl (Nat.le_of_ble_eq_true rfl) ?_
  intro p e s m args below meth c ls ha C hP hS hl
  have hn : 64 ≤ n := C.2.1.1.2.1
  have hi6 : ∀ w ∈ u_ws RX6 TX6 17, w ∈ wsX6_far := by decide +kernel
  have hl : lv_has ls 2 [(0, .ref (gA g 53)), (1, .int (nI r))] := hl
  refine lv_aload_n C.1.1 C.1.2.1 dX6_far_0 rfl (lv_at hl 0 rfl) ?_
  refine lv_iload_n C.1.1 C.1.2.1 dX6_far_1 rfl (lv_at hl 1 rfl) ?_
  refine lv_iconst (v := 1) C.1.1 C.1.2.1 dX6_far_2 rfl ?_
  refine a_F hS (run_V C hP hS hl.1 53 6 (Nat.lt_of_lt_of_le (by decide) hn) rfl (by decide) rfl [.int (nI r), .int 1] (kX6_its l g n v r 1 (by omega) (by omega)) gX6_far_X6_its rfl hdX6_its rfl ⟨rfl, rfl⟩ ⟨Nat.le_of_ble_eq_true rfl, Nat.le_of_ble_eq_true rfl⟩ rfl [] rfl (Nat.le_of_ble_eq_true rfl) dX6_far_3 ⟨Nat.zero_le _, Nat.zero_le _⟩) (fun H locs hP hS => ?_)
  refine lv_aload_n C.1.1 C.1.2.1 dX6_far_6 rfl (lv_at hl 0 rfl) ?_
  refine r_get C hP 53 6 (Nat.lt_of_lt_of_le (by decide) hn) rfl (by decide) rfl hi6 0 (by decide) (List.mem_of_getElem? (i := 1) rfl) rfl (val := .ref (gA g 54)) rfl dX6_far_7 ?_
  refine lv_iconst (v := 3) C.1.1 C.1.2.1 dX6_far_10 rfl ?_
  refine r_iald C hP 54 (Nat.lt_of_lt_of_le (by decide) hn) rfl 3 rfl (N := 83) rfl (by decide) (by omega) dX6_far_11 ?_
  refine lv_isub C.1.1 C.1.2.1 dX6_far_12 ?_
  refine a_F hS (run_S C hP hS hl.1 [.int ((rowM (v.1 54) r 1) - (v.1 54 3))] (kX6_size l g n v ((rowM (v.1 54) r 1) - (v.1 54 3))) gX6_far_X6_size hdX6_size rfl ⟨rfl, rfl⟩ ⟨Nat.le_of_ble_eq_true rfl, Nat.le_of_ble_eq_true rfl⟩ rfl [] rfl (Nat.le_of_ble_eq_true rfl) dX6_far_13 ⟨Nat.zero_le _, Nat.zero_le _⟩) (fun H locs hP hS => ?_)
  exact t_F C rfl hP hS rfl rfl dX6_far_16

abbrev rmX6_ones : Room := { frames := 0, cells := 0, slots := 0, locals := 0 }
set_option maxHeartbeats 4000000 in
set_option maxRecDepth 100000 in
theorem kX6_ones (l : Launch) (g : GG) (n : Nat) (v : SV) (x : Int32) : Met l yX6_ones wsX6_ones rmX6_ones (PW g n v [.int x]) (QF g n (onesF x 12) v) 0 0 (wA g n) := by
  refine Met.begin RX6 rfl (by decide) rfl (Nat.le_of_ble_eq_true rfl) ?_
  intro p e s m args below meth c ls ha C hP hS hl
  have hn : 64 ≤ n := C.2.1.1.2.1
  have hl : lv_has ls 3 [(0, .int x)] := hl
  refine lv_iconst (v := 0) C.1.1 C.1.2.1 dX6_ones_0 rfl ?_
  refine lv_istore_n (lv' := [(1, .int 0), (0, .int x)]) C.1.1 C.1.2.1 dX6_ones_1 rfl hl (by decide) rfl (fun ls hl => ?_)
  refine lv_iconst (v := 0) C.1.1 C.1.2.1 dX6_ones_2 rfl ?_
  refine lv_istore_n (lv' := [(2, .int 0), (1, .int 0), (0, .int x)]) C.1.1 C.1.2.1 dX6_ones_3 rfl hl (by decide) rfl (fun ls hl => ?_)
  have lp_4 : ∀ (k_4 i : Nat), i ≤ 12 → 12 + 1 ≤ i + k_4 → ∀ (H : Heap) (locs : List Loc) (ls : Array Slot), va_P g.1 vwCl (wl g n v) H → va_S (wA g n) s.heap H locs → lv_has ls 3 [(0, .int x), (1, .int (onesF x i)), (2, .int (nI i))] → W p l e rmX6_ones s m args below meth c H locs 0 0 (MQ below (QF g n (onesF x 12) v) args s 0 0 (wA g n)) (F0 m 4 ls []) := by
    clear hP hS hl
    intro k_4
    induction k_4 with
    | zero => exact fun i h1 h2 => absurd h2 (by omega)
    | succ k_4 ih_4 =>
      intro i hi_4 hk_4 H locs ls hP hS hl
      refine lv_iload_n C.1.1 C.1.2.1 dX6_ones_4 rfl (lv_at hl 2 rfl) ?_
      refine lv_bipush (v := 12) C.1.1 C.1.2.1 dX6_ones_5 rfl ?_
      refine lv_icmp_ge (tgt := 24) C.1.1 C.1.2.1 dX6_ones_7 (by decide) (fun c_1 => ?_) (fun c_1 => ?_)
      · rw [show (12 ≤ nI i) = (12 ≤ i) from propext (nI_leI (a := 12) (b := i) (by omega) (by omega))] at c_1
        have hi12 : i = 12 := by omega
        subst hi12
        refine lv_iload_n C.1.1 C.1.2.1 dX6_ones_24 rfl (lv_at hl 1 rfl) ?_
        exact t_F C rfl hP hS rfl rfl dX6_ones_25
      · rw [show (12 ≤ nI i) = (12 ≤ i) from propext (nI_leI (a := 12) (b := i) (by omega) (by omega))] at c_1
        refine lv_iload_n C.1.1 C.1.2.1 dX6_ones_10 rfl (lv_at hl 1 rfl) ?_
        refine lv_iload_n C.1.1 C.1.2.1 dX6_ones_11 rfl (lv_at hl 0 rfl) ?_
        refine lv_iload_n C.1.1 C.1.2.1 dX6_ones_12 rfl (lv_at hl 2 rfl) ?_
        refine lv_ishr C.1.1 C.1.2.1 dX6_ones_13 ?_
        refine lv_iconst (v := 1) C.1.1 C.1.2.1 dX6_ones_14 rfl ?_
        refine lv_iand C.1.1 C.1.2.1 dX6_ones_15 ?_
        refine lv_iadd C.1.1 C.1.2.1 dX6_ones_16 ?_
        refine lv_istore_n (lv' := [(1, .int ((onesF x i) + ((x >>> ((nI i) &&& 31)) &&& 1))), (0, .int x), (2, .int (nI i))]) C.1.1 C.1.2.1 dX6_ones_17 rfl hl (by decide) rfl (fun ls hl => ?_)
        refine lv_iinc (v := nI (i + 1)) (lv' := [(2, .int (nI (i + 1))), (1, .int ((onesF x i) + ((x >>> ((nI i) &&& 31)) &&& 1))), (0, .int x)]) C.1.1 C.1.2.1 dX6_ones_18 hl (k := 2) rfl (nI_1 i) (by decide) rfl (fun ls hl => ?_)
        refine lv_goto (tgt := 4) C.1.1 C.1.2.1 dX6_ones_21 (by decide) ?_
        exact ih_4 (i + 1) (by omega) (by omega) _ _ _ hP hS (lv_sub hl [2, 1, 0] rfl)
  exact lp_4 (12 + 1) 0 (Nat.zero_le _) (by omega) _ _ _ hP hS (lv_sub hl [2, 1, 0] rfl)

abbrev rmX6_hears : Room := { frames := 1, cells := 0, slots := 0, locals := 22 }
set_option maxHeartbeats 4000000 in
set_option maxRecDepth 100000 in
theorem kX6_hears (l : Launch) (g : GG) (n : Nat) (v : SV) (r : Nat) (hr : r < 8) : Met l yX6_hears wsX6_hears rmX6_hears (PW g n v [.ref (gA g 53), .int (nI r)]) (QF g n (hearF (rowM (v.1 54) r) (v.1 54 5)) v) 0 0 (wA g n) := by
  refine Met.begin RX6 rfl (by decide) rfl (Nat.le_of_ble_eq_true rfl) ?_
  intro p e s m args below meth c ls ha C hP hS hl
  have hn : 64 ≤ n := C.2.1.1.2.1
  have hi6 : ∀ w ∈ u_ws RX6 TX6 17, w ∈ wsX6_hears := by decide +kernel
  have hl : lv_has ls 4 [(0, .ref (gA g 53)), (1, .int (nI r))] := hl
  refine lv_aload_n C.1.1 C.1.2.1 dX6_hears_0 rfl (lv_at hl 0 rfl) ?_
  refine r_get C hP 53 6 (Nat.lt_of_lt_of_le (by decide) hn) rfl (by decide) rfl hi6 0 (by decide) (List.mem_of_getElem? (i := 1) rfl) rfl (val := .ref (gA g 54)) rfl dX6_hears_1 ?_
  refine lv_iconst (v := 5) C.1.1 C.1.2.1 dX6_hears_4 rfl ?_
  refine r_iald C hP 54 (Nat.lt_of_lt_of_le (by decide) hn) rfl 5 rfl (N := 83) rfl (by decide) (by omega) dX6_hears_5 ?_
  refine lv_istore_n (lv' := [(2, .int (v.1 54 5)), (0, .ref (gA g 53)), (1, .int (nI r))]) C.1.1 C.1.2.1 dX6_hears_6 rfl hl (by decide) rfl (fun ls hl => ?_)
  refine lv_iload_n C.1.1 C.1.2.1 dX6_hears_7 rfl (lv_at hl 0 rfl) ?_
  refine lv_iconst (v := 2) C.1.1 C.1.2.1 dX6_hears_8 rfl ?_
  refine lv_iadd C.1.1 C.1.2.1 dX6_hears_9 ?_
  refine lv_iconst (v := 2) C.1.1 C.1.2.1 dX6_hears_10 rfl ?_
  refine lv_idiv C.1.1 C.1.2.1 dX6_hears_11 (by decide) ?_
  refine lv_istore_n (lv' := [(3, .int (((v.1 54 5) + 2) / 2)), (2, .int (v.1 54 5)), (0, .ref (gA g 53)), (1, .int (nI r))]) C.1.1 C.1.2.1 dX6_hears_12 rfl hl (by decide) rfl (fun ls hl => ?_)
  refine lv_aload_n C.1.1 C.1.2.1 dX6_hears_13 rfl (lv_at hl 2 rfl) ?_
  refine lv_iload_n C.1.1 C.1.2.1 dX6_hears_14 rfl (lv_at hl 3 rfl) ?_
  refine lv_iconst (v := 0) C.1.1 C.1.2.1 dX6_hears_15 rfl ?_
  refine a_F hS (run_V C hP hS hl.1 53 6 (Nat.lt_of_lt_of_le (by decide) hn) rfl (by decide) rfl [.int (nI r), .int 0] (kX6_its l g n v r 0 (by omega) (by omega)) gX6_hears_X6_its rfl hdX6_its rfl ⟨rfl, rfl⟩ ⟨Nat.le_of_ble_eq_true rfl, Nat.le_of_ble_eq_true rfl⟩ rfl [] rfl (Nat.le_of_ble_eq_true rfl) dX6_hears_16 ⟨Nat.zero_le _, Nat.zero_le _⟩) (fun H locs hP hS => ?_)
  by_cases c_1 : rowM (v.1 54) r 0 = 1
  · refine lv_topE 1 c_1 ?_
    refine lv_tableIn (off := 37) (tgt := 56) C.1.1 C.1.2.1 dX6_hears_19 (by decide) (by decide) rfl (by decide) ?_
    refine lv_iload_n C.1.1 C.1.2.1 dX6_hears_56 rfl (lv_at hl 1 rfl) ?_
    refine lv_iconst (v := 2) C.1.1 C.1.2.1 dX6_hears_57 rfl ?_
    refine lv_iadd C.1.1 C.1.2.1 dX6_hears_58 ?_
    exact t_F C rfl hP hS (by simp [hearF, c_1]) rfl dX6_hears_59
  by_cases c_2 : rowM (v.1 54) r 0 = 2
  · refine lv_topE 2 c_2 ?_
    refine lv_tableIn (off := 62) (tgt := 81) C.1.1 C.1.2.1 dX6_hears_19 (by decide) (by decide) rfl (by decide) ?_
    refine lv_iconst (v := 2) C.1.1 C.1.2.1 dX6_hears_81 rfl ?_
    refine lv_iload_n C.1.1 C.1.2.1 dX6_hears_82 rfl (lv_at hl 1 rfl) ?_
    refine lv_imul C.1.1 C.1.2.1 dX6_hears_83 ?_
    exact t_F C rfl hP hS (by simp [hearF, c_2]) rfl dX6_hears_84
  by_cases c_3 : rowM (v.1 54) r 0 = 3
  · refine lv_topE 3 c_3 ?_
    refine lv_tableIn (off := 41) (tgt := 60) C.1.1 C.1.2.1 dX6_hears_19 (by decide) (by decide) rfl (by decide) ?_
    refine lv_iload_n C.1.1 C.1.2.1 dX6_hears_60 rfl (lv_at hl 0 rfl) ?_
    exact t_F C rfl hP hS (by simp [hearF, c_3]) rfl dX6_hears_61
  by_cases c_4 : rowM (v.1 54) r 0 = 4
  · refine lv_topE 4 c_4 ?_
    refine lv_tableIn (off := 43) (tgt := 62) C.1.1 C.1.2.1 dX6_hears_19 (by decide) (by decide) rfl (by decide) ?_
    refine lv_iload_n C.1.1 C.1.2.1 dX6_hears_62 rfl (lv_at hl 0 rfl) ?_
    refine lv_aload_n C.1.1 C.1.2.1 dX6_hears_63 rfl (lv_at hl 2 rfl) ?_
    refine lv_iload_n C.1.1 C.1.2.1 dX6_hears_64 rfl (lv_at hl 3 rfl) ?_
    refine lv_iconst (v := 3) C.1.1 C.1.2.1 dX6_hears_65 rfl ?_
    refine a_F hS (run_V C hP hS hl.1 53 6 (Nat.lt_of_lt_of_le (by decide) hn) rfl (by decide) rfl [.int (nI r), .int 3] (kX6_its l g n v r 3 (by omega) (by omega)) gX6_hears_X6_its rfl hdX6_its rfl ⟨rfl, rfl⟩ ⟨Nat.le_of_ble_eq_true rfl, Nat.le_of_ble_eq_true rfl⟩ rfl [.int (((v.1 54 5) + 2) / 2)] rfl (Nat.le_of_ble_eq_true rfl) dX6_hears_66 ⟨Nat.zero_le _, Nat.zero_le _⟩) (fun H locs hP hS => ?_)
    refine lv_bipush (v := 50) C.1.1 C.1.2.1 dX6_hears_69 rfl ?_
    refine lv_icmp_lt (tgt := 78) C.1.1 C.1.2.1 dX6_hears_71 (by decide) (fun c_5 => ?_) (fun c_5 => ?_)
    · skip
      refine lv_iconst (v := 0) C.1.1 C.1.2.1 dX6_hears_78 rfl ?_
      refine lv_iadd C.1.1 C.1.2.1 dX6_hears_79 ?_
      exact t_F C rfl hP hS (by simp [hearF, c_4, c_5]) rfl dX6_hears_80
    · skip
      refine lv_iconst (v := 1) C.1.1 C.1.2.1 dX6_hears_74 rfl ?_
      refine lv_goto (tgt := 79) C.1.1 C.1.2.1 dX6_hears_75 (by decide) ?_
      refine lv_iadd C.1.1 C.1.2.1 dX6_hears_79 ?_
      exact t_F C rfl hP hS (by simp [hearF, c_4, c_5]) rfl dX6_hears_80
  by_cases c_6 : rowM (v.1 54) r 0 = 5
  · refine lv_topE 5 c_6 ?_
    refine lv_tableIn (off := 69) (tgt := 88) C.1.1 C.1.2.1 dX6_hears_19 (by decide) (by decide) rfl (by decide) ?_
    refine lv_iconst (v := 0) C.1.1 C.1.2.1 dX6_hears_88 rfl ?_
    exact t_F C rfl hP hS (by simp [hearF, c_6]) rfl dX6_hears_89
  by_cases c_7 : rowM (v.1 54) r 0 = 6
  · refine lv_topE 6 c_7 ?_
    refine lv_tableIn (off := 66) (tgt := 85) C.1.1 C.1.2.1 dX6_hears_19 (by decide) (by decide) rfl (by decide) ?_
    refine lv_bipush (v := 15) C.1.1 C.1.2.1 dX6_hears_85 rfl ?_
    exact t_F C rfl hP hS (by simp [hearF, c_7]) rfl dX6_hears_87
  have hsw : (rowM (v.1 54) r 0).toInt < 1 ∨ 6 < (rowM (v.1 54) r 0).toInt := by
    have qc_1 := lv_neT (a := 1) c_1 rfl
    have qc_2 := lv_neT (a := 2) c_2 rfl
    have qc_3 := lv_neT (a := 3) c_3 rfl
    have qc_4 := lv_neT (a := 4) c_4 rfl
    have qc_6 := lv_neT (a := 5) c_6 rfl
    have qc_7 := lv_neT (a := 6) c_7 rfl
    omega
  refine lv_tableOut (tgt := 90) C.1.1 C.1.2.1 dX6_hears_19 hsw (by decide) ?_
  refine lv_iload_n C.1.1 C.1.2.1 dX6_hears_90 rfl (lv_at hl 1 rfl) ?_
  exact t_F C rfl hP hS (by simp [hearF, c_1, c_2, c_3, c_4, c_6, c_7]) rfl dX6_hears_91

abbrev rmX6_trusts : Room := { frames := 1, cells := 0, slots := 0, locals := 22 }
set_option maxHeartbeats 4000000 in
set_option maxRecDepth 100000 in
theorem kX6_trusts (l : Launch) (g : GG) (n : Nat) (v : SV) (r : Nat) (hr : r < 8) : Met l yX6_trusts wsX6_trusts rmX6_trusts (PW g n v [.ref (gA g 53), .int (nI r)]) (QF g n (trustF (rowM (v.1 54) r)) v) 0 0 (wA g n) := by
  refine Met.begin RX6 rfl (by decide) rfl (Nat.le_of_ble_eq_true rfl) ?_
  intro p e s m args below meth c ls ha C hP hS hl
  have hn : 64 ≤ n := C.2.1.1.2.1
  have hi6 : ∀ w ∈ u_ws RX6 TX6 17, w ∈ wsX6_trusts := by decide +kernel
  have hl : lv_has ls 2 [(0, .ref (gA g 53)), (1, .int (nI r))] := hl
  refine lv_aload_n C.1.1 C.1.2.1 dX6_trusts_0 rfl (lv_at hl 0 rfl) ?_
  refine lv_iload_n C.1.1 C.1.2.1 dX6_trusts_1 rfl (lv_at hl 1 rfl) ?_
  refine lv_iconst (v := 0) C.1.1 C.1.2.1 dX6_trusts_2 rfl ?_
  refine a_F hS (run_V C hP hS hl.1 53 6 (Nat.lt_of_lt_of_le (by decide) hn) rfl (by decide) rfl [.int (nI r), .int 0] (kX6_its l g n v r 0 (by omega) (by omega)) gX6_trusts_X6_its rfl hdX6_its rfl ⟨rfl, rfl⟩ ⟨Nat.le_of_ble_eq_true rfl, Nat.le_of_ble_eq_true rfl⟩ rfl [] rfl (Nat.le_of_ble_eq_true rfl) dX6_trusts_3 ⟨Nat.zero_le _, Nat.zero_le _⟩) (fun H locs hP hS => ?_)
  by_cases c_1 : rowM (v.1 54) r 0 = 1
  · refine lv_topE 1 c_1 ?_
    refine lv_tableIn (off := 38) (tgt := 44) C.1.1 C.1.2.1 dX6_trusts_6 (by decide) (by decide) rfl (by decide) ?_
    refine lv_bipush (v := 10) C.1.1 C.1.2.1 dX6_trusts_44 rfl ?_
    exact t_F C rfl hP hS (by simp [trustF, c_1]) rfl dX6_trusts_46
  by_cases c_2 : rowM (v.1 54) r 0 = 2
  · refine lv_topE 2 c_2 ?_
    refine lv_tableIn (off := 65) (tgt := 71) C.1.1 C.1.2.1 dX6_trusts_6 (by decide) (by decide) rfl (by decide) ?_
    refine lv_bipush (v := 20) C.1.1 C.1.2.1 dX6_trusts_71 rfl ?_
    exact t_F C rfl hP hS (by simp [trustF, c_2]) rfl dX6_trusts_73
  by_cases c_3 : rowM (v.1 54) r 0 = 3
  · refine lv_topE 3 c_3 ?_
    refine lv_tableIn (off := 41) (tgt := 47) C.1.1 C.1.2.1 dX6_trusts_6 (by decide) (by decide) rfl (by decide) ?_
    refine lv_bipush (v := 40) C.1.1 C.1.2.1 dX6_trusts_47 rfl ?_
    exact t_F C rfl hP hS (by simp [trustF, c_3]) rfl dX6_trusts_49
  by_cases c_4 : rowM (v.1 54) r 0 = 4
  · refine lv_topE 4 c_4 ?_
    refine lv_tableIn (off := 44) (tgt := 50) C.1.1 C.1.2.1 dX6_trusts_6 (by decide) (by decide) rfl (by decide) ?_
    refine lv_iconst (v := 0) C.1.1 C.1.2.1 dX6_trusts_50 rfl ?_
    exact t_F C rfl hP hS (by simp [trustF, c_4]) rfl dX6_trusts_51
  by_cases c_5 : rowM (v.1 54) r 0 = 5
  · refine lv_topE 5 c_5 ?_
    refine lv_tableIn (off := 65) (tgt := 71) C.1.1 C.1.2.1 dX6_trusts_6 (by decide) (by decide) rfl (by decide) ?_
    refine lv_bipush (v := 20) C.1.1 C.1.2.1 dX6_trusts_71 rfl ?_
    exact t_F C rfl hP hS (by simp [trustF, c_5]) rfl dX6_trusts_73
  by_cases c_6 : rowM (v.1 54) r 0 = 6
  · refine lv_topE 6 c_6 ?_
    refine lv_tableIn (off := 46) (tgt := 52) C.1.1 C.1.2.1 dX6_trusts_6 (by decide) (by decide) rfl (by decide) ?_
    refine lv_aload_n C.1.1 C.1.2.1 dX6_trusts_52 rfl (lv_at hl 0 rfl) ?_
    refine lv_iload_n C.1.1 C.1.2.1 dX6_trusts_53 rfl (lv_at hl 1 rfl) ?_
    refine lv_iconst (v := 4) C.1.1 C.1.2.1 dX6_trusts_54 rfl ?_
    refine a_F hS (run_V C hP hS hl.1 53 6 (Nat.lt_of_lt_of_le (by decide) hn) rfl (by decide) rfl [.int (nI r), .int 4] (kX6_its l g n v r 4 (by omega) (by omega)) gX6_trusts_X6_its rfl hdX6_its rfl ⟨rfl, rfl⟩ ⟨Nat.le_of_ble_eq_true rfl, Nat.le_of_ble_eq_true rfl⟩ rfl [] rfl (Nat.le_of_ble_eq_true rfl) dX6_trusts_55 ⟨Nat.zero_le _, Nat.zero_le _⟩) (fun H locs hP hS => ?_)
    refine lv_bipush (v := 10) C.1.1 C.1.2.1 dX6_trusts_58 rfl ?_
    refine lv_icmp_lt (tgt := 68) C.1.1 C.1.2.1 dX6_trusts_60 (by decide) (fun c_7 => ?_) (fun c_7 => ?_)
    · skip
      refine lv_bipush (v := 20) C.1.1 C.1.2.1 dX6_trusts_68 rfl ?_
      exact t_F C rfl hP hS (by simp [trustF, c_6, c_7]) rfl dX6_trusts_70
    · skip
      refine lv_bipush (v := 60) C.1.1 C.1.2.1 dX6_trusts_63 rfl ?_
      refine lv_goto (tgt := 70) C.1.1 C.1.2.1 dX6_trusts_65 (by decide) ?_
      exact t_F C rfl hP hS (by simp [trustF, c_6, c_7]) rfl dX6_trusts_70
  have hsw : (rowM (v.1 54) r 0).toInt < 1 ∨ 6 < (rowM (v.1 54) r 0).toInt := by
    have qc_1 := lv_neT (a := 1) c_1 rfl
    have qc_2 := lv_neT (a := 2) c_2 rfl
    have qc_3 := lv_neT (a := 3) c_3 rfl
    have qc_4 := lv_neT (a := 4) c_4 rfl
    have qc_5 := lv_neT (a := 5) c_5 rfl
    have qc_6 := lv_neT (a := 6) c_6 rfl
    omega
  refine lv_tableOut (tgt := 71) C.1.1 C.1.2.1 dX6_trusts_6 hsw (by decide) ?_
  refine lv_bipush (v := 20) C.1.1 C.1.2.1 dX6_trusts_71 rfl ?_
  exact t_F C rfl hP hS (by simp [trustF, c_1, c_2, c_3, c_4, c_5, c_6]) rfl dX6_trusts_73

abbrev rmX6_loses : Room := { frames := 1, cells := 0, slots := 0, locals := 22 }
set_option maxHeartbeats 4000000 in
set_option maxRecDepth 100000 in
theorem kX6_loses (l : Launch) (g : GG) (n : Nat) (v : SV) (r : Nat) (hr : r < 8) : Met l yX6_loses wsX6_loses rmX6_loses (PW g n v [.ref (gA g 53), .int (nI r)]) (QF g n (loseF (rowM (v.1 54) r)) v) 0 0 (wA g n) := by
  refine Met.begin RX6 rfl (by decide) rfl (Nat.le_of_ble_eq_true rfl) ?_
  intro p e s m args below meth c ls ha C hP hS hl
  have hn : 64 ≤ n := C.2.1.1.2.1
  have hi6 : ∀ w ∈ u_ws RX6 TX6 17, w ∈ wsX6_loses := by decide +kernel
  have hl : lv_has ls 2 [(0, .ref (gA g 53)), (1, .int (nI r))] := hl
  refine lv_aload_n C.1.1 C.1.2.1 dX6_loses_0 rfl (lv_at hl 0 rfl) ?_
  refine lv_iload_n C.1.1 C.1.2.1 dX6_loses_1 rfl (lv_at hl 1 rfl) ?_
  refine lv_iconst (v := 0) C.1.1 C.1.2.1 dX6_loses_2 rfl ?_
  refine a_F hS (run_V C hP hS hl.1 53 6 (Nat.lt_of_lt_of_le (by decide) hn) rfl (by decide) rfl [.int (nI r), .int 0] (kX6_its l g n v r 0 (by omega) (by omega)) gX6_loses_X6_its rfl hdX6_its rfl ⟨rfl, rfl⟩ ⟨Nat.le_of_ble_eq_true rfl, Nat.le_of_ble_eq_true rfl⟩ rfl [] rfl (Nat.le_of_ble_eq_true rfl) dX6_loses_3 ⟨Nat.zero_le _, Nat.zero_le _⟩) (fun H locs hP hS => ?_)
  by_cases c_1 : rowM (v.1 54) r 0 = 1
  · refine lv_topE 1 c_1 ?_
    refine lv_tableIn (off := 38) (tgt := 44) C.1.1 C.1.2.1 dX6_loses_6 (by decide) (by decide) rfl (by decide) ?_
    refine lv_iconst (v := 5) C.1.1 C.1.2.1 dX6_loses_44 rfl ?_
    exact t_F C rfl hP hS (by simp [loseF, c_1]) rfl dX6_loses_45
  by_cases c_2 : rowM (v.1 54) r 0 = 2
  · refine lv_topE 2 c_2 ?_
    refine lv_tableIn (off := 42) (tgt := 48) C.1.1 C.1.2.1 dX6_loses_6 (by decide) (by decide) rfl (by decide) ?_
    refine lv_bipush (v := 16) C.1.1 C.1.2.1 dX6_loses_48 rfl ?_
    exact t_F C rfl hP hS (by simp [loseF, c_2]) rfl dX6_loses_50
  by_cases c_3 : rowM (v.1 54) r 0 = 3
  · refine lv_topE 3 c_3 ?_
    refine lv_tableIn (off := 38) (tgt := 44) C.1.1 C.1.2.1 dX6_loses_6 (by decide) (by decide) rfl (by decide) ?_
    refine lv_iconst (v := 5) C.1.1 C.1.2.1 dX6_loses_44 rfl ?_
    exact t_F C rfl hP hS (by simp [loseF, c_3]) rfl dX6_loses_45
  by_cases c_4 : rowM (v.1 54) r 0 = 4
  · refine lv_topE 4 c_4 ?_
    refine lv_tableIn (off := 40) (tgt := 46) C.1.1 C.1.2.1 dX6_loses_6 (by decide) (by decide) rfl (by decide) ?_
    refine lv_iconst (v := 1) C.1.1 C.1.2.1 dX6_loses_46 rfl ?_
    exact t_F C rfl hP hS (by simp [loseF, c_4]) rfl dX6_loses_47
  by_cases c_5 : rowM (v.1 54) r 0 = 5
  · refine lv_topE 5 c_5 ?_
    refine lv_tableIn (off := 48) (tgt := 54) C.1.1 C.1.2.1 dX6_loses_6 (by decide) (by decide) rfl (by decide) ?_
    refine lv_bipush (v := 8) C.1.1 C.1.2.1 dX6_loses_54 rfl ?_
    refine lv_aload_n C.1.1 C.1.2.1 dX6_loses_56 rfl (lv_at hl 0 rfl) ?_
    refine lv_iload_n C.1.1 C.1.2.1 dX6_loses_57 rfl (lv_at hl 1 rfl) ?_
    refine lv_iconst (v := 2) C.1.1 C.1.2.1 dX6_loses_58 rfl ?_
    refine a_F hS (run_V C hP hS hl.1 53 6 (Nat.lt_of_lt_of_le (by decide) hn) rfl (by decide) rfl [.int (nI r), .int 2] (kX6_its l g n v r 2 (by omega) (by omega)) gX6_loses_X6_its rfl hdX6_its rfl ⟨rfl, rfl⟩ ⟨Nat.le_of_ble_eq_true rfl, Nat.le_of_ble_eq_true rfl⟩ rfl [.int 8] rfl (Nat.le_of_ble_eq_true rfl) dX6_loses_59 ⟨Nat.zero_le _, Nat.zero_le _⟩) (fun H locs hP hS => ?_)
    refine a_F hS (run_S C hP hS hl.1 [.int (rowM (v.1 54) r 2)] (kX6_ones l g n v (rowM (v.1 54) r 2)) gX6_loses_X6_ones hdX6_ones rfl ⟨rfl, rfl⟩ ⟨Nat.le_of_ble_eq_true rfl, Nat.le_of_ble_eq_true rfl⟩ rfl [.int 8] rfl (Nat.le_of_ble_eq_true rfl) dX6_loses_62 ⟨Nat.zero_le _, Nat.zero_le _⟩) (fun H locs hP hS => ?_)
    refine lv_iadd C.1.1 C.1.2.1 dX6_loses_65 ?_
    exact t_F C rfl hP hS (by simp [loseF, c_5]) rfl dX6_loses_66
  by_cases c_6 : rowM (v.1 54) r 0 = 6
  · refine lv_topE 6 c_6 ?_
    refine lv_tableIn (off := 45) (tgt := 51) C.1.1 C.1.2.1 dX6_loses_6 (by decide) (by decide) rfl (by decide) ?_
    refine lv_bipush (v := 10) C.1.1 C.1.2.1 dX6_loses_51 rfl ?_
    exact t_F C rfl hP hS (by simp [loseF, c_6]) rfl dX6_loses_53
  have hsw : (rowM (v.1 54) r 0).toInt < 1 ∨ 6 < (rowM (v.1 54) r 0).toInt := by
    have qc_1 := lv_neT (a := 1) c_1 rfl
    have qc_2 := lv_neT (a := 2) c_2 rfl
    have qc_3 := lv_neT (a := 3) c_3 rfl
    have qc_4 := lv_neT (a := 4) c_4 rfl
    have qc_5 := lv_neT (a := 5) c_5 rfl
    have qc_6 := lv_neT (a := 6) c_6 rfl
    omega
  refine lv_tableOut (tgt := 67) C.1.1 C.1.2.1 dX6_loses_6 hsw (by decide) ?_
  refine lv_bipush (v := 8) C.1.1 C.1.2.1 dX6_loses_67 rfl ?_
  exact t_F C rfl hP hS (by simp [loseF, c_1, c_2, c_3, c_4, c_5, c_6]) rfl dX6_loses_69

abbrev rmX6_mends : Room := { frames := 1, cells := 0, slots := 0, locals := 22 }
set_option maxHeartbeats 4000000 in
set_option maxRecDepth 100000 in
theorem kX6_mends (l : Launch) (g : GG) (n : Nat) (v : SV) (r : Nat) (hr : r < 8) : Met l yX6_mends wsX6_mends rmX6_mends (PW g n v [.ref (gA g 53), .int (nI r)]) (QF g n (mendF (rowM (v.1 54) r)) v) 0 0 (wA g n) := by
  refine Met.begin RX6 rfl (by decide) rfl (Nat.le_of_ble_eq_true rfl) ?_
  intro p e s m args below meth c ls ha C hP hS hl
  have hn : 64 ≤ n := C.2.1.1.2.1
  have hi6 : ∀ w ∈ u_ws RX6 TX6 17, w ∈ wsX6_mends := by decide +kernel
  have hl : lv_has ls 2 [(0, .ref (gA g 53)), (1, .int (nI r))] := hl
  refine lv_aload_n C.1.1 C.1.2.1 dX6_mends_0 rfl (lv_at hl 0 rfl) ?_
  refine lv_iload_n C.1.1 C.1.2.1 dX6_mends_1 rfl (lv_at hl 1 rfl) ?_
  refine lv_iconst (v := 0) C.1.1 C.1.2.1 dX6_mends_2 rfl ?_
  refine a_F hS (run_V C hP hS hl.1 53 6 (Nat.lt_of_lt_of_le (by decide) hn) rfl (by decide) rfl [.int (nI r), .int 0] (kX6_its l g n v r 0 (by omega) (by omega)) gX6_mends_X6_its rfl hdX6_its rfl ⟨rfl, rfl⟩ ⟨Nat.le_of_ble_eq_true rfl, Nat.le_of_ble_eq_true rfl⟩ rfl [] rfl (Nat.le_of_ble_eq_true rfl) dX6_mends_3 ⟨Nat.zero_le _, Nat.zero_le _⟩) (fun H locs hP hS => ?_)
  by_cases c_1 : rowM (v.1 54) r 0 = 1
  · refine lv_topE 1 c_1 ?_
    refine lv_tableIn (off := 38) (tgt := 44) C.1.1 C.1.2.1 dX6_mends_6 (by decide) (by decide) rfl (by decide) ?_
    refine lv_iconst (v := 3) C.1.1 C.1.2.1 dX6_mends_44 rfl ?_
    exact t_F C rfl hP hS (by simp [mendF, c_1]) rfl dX6_mends_45
  by_cases c_2 : rowM (v.1 54) r 0 = 2
  · refine lv_topE 2 c_2 ?_
    refine lv_tableIn (off := 47) (tgt := 53) C.1.1 C.1.2.1 dX6_mends_6 (by decide) (by decide) rfl (by decide) ?_
    refine lv_iconst (v := 2) C.1.1 C.1.2.1 dX6_mends_53 rfl ?_
    exact t_F C rfl hP hS (by simp [mendF, c_2]) rfl dX6_mends_54
  by_cases c_3 : rowM (v.1 54) r 0 = 3
  · refine lv_topE 3 c_3 ?_
    refine lv_tableIn (off := 38) (tgt := 44) C.1.1 C.1.2.1 dX6_mends_6 (by decide) (by decide) rfl (by decide) ?_
    refine lv_iconst (v := 3) C.1.1 C.1.2.1 dX6_mends_44 rfl ?_
    exact t_F C rfl hP hS (by simp [mendF, c_3]) rfl dX6_mends_45
  by_cases c_4 : rowM (v.1 54) r 0 = 4
  · refine lv_topE 4 c_4 ?_
    refine lv_tableIn (off := 40) (tgt := 46) C.1.1 C.1.2.1 dX6_mends_6 (by decide) (by decide) rfl (by decide) ?_
    refine lv_bipush (v := 6) C.1.1 C.1.2.1 dX6_mends_46 rfl ?_
    exact t_F C rfl hP hS (by simp [mendF, c_4]) rfl dX6_mends_48
  by_cases c_5 : rowM (v.1 54) r 0 = 5
  · refine lv_topE 5 c_5 ?_
    refine lv_tableIn (off := 45) (tgt := 51) C.1.1 C.1.2.1 dX6_mends_6 (by decide) (by decide) rfl (by decide) ?_
    refine lv_iconst (v := 0) C.1.1 C.1.2.1 dX6_mends_51 rfl ?_
    exact t_F C rfl hP hS (by simp [mendF, c_5]) rfl dX6_mends_52
  by_cases c_6 : rowM (v.1 54) r 0 = 6
  · refine lv_topE 6 c_6 ?_
    refine lv_tableIn (off := 43) (tgt := 49) C.1.1 C.1.2.1 dX6_mends_6 (by decide) (by decide) rfl (by decide) ?_
    refine lv_iconst (v := 5) C.1.1 C.1.2.1 dX6_mends_49 rfl ?_
    exact t_F C rfl hP hS (by simp [mendF, c_6]) rfl dX6_mends_50
  have hsw : (rowM (v.1 54) r 0).toInt < 1 ∨ 6 < (rowM (v.1 54) r 0).toInt := by
    have qc_1 := lv_neT (a := 1) c_1 rfl
    have qc_2 := lv_neT (a := 2) c_2 rfl
    have qc_3 := lv_neT (a := 3) c_3 rfl
    have qc_4 := lv_neT (a := 4) c_4 rfl
    have qc_5 := lv_neT (a := 5) c_5 rfl
    have qc_6 := lv_neT (a := 6) c_6 rfl
    omega
  refine lv_tableOut (tgt := 53) C.1.1 C.1.2.1 dX6_mends_6 hsw (by decide) ?_
  refine lv_iconst (v := 2) C.1.1 C.1.2.1 dX6_mends_53 rfl ?_
  exact t_F C rfl hP hS (by simp [mendF, c_1, c_2, c_3, c_4, c_5, c_6]) rfl dX6_mends_54

