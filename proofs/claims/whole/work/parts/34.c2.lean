abbrev rmJ7_fill_53178 : Room := { frames := 0, cells := 0, slots := 0, locals := 0 }
set_option maxHeartbeats 4000000 in
set_option maxRecDepth 100000 in
theorem kJ7_fill_53178 (l : Launch) (g : GG) (n : Nat) (v : SV) (a : Nat) (hpa : a < 64) (ka : kd a = 8) (Ln : Nat) (la : ln a = Ln) (hL : Ln ≤ 160) (x : Int32) : Met l yJ7_fill_53178 wsJ7_fill_53178 rmJ7_fill_53178 (PW g n v [.ref (gA g a), .int x]) (QG g n (upw v a (fillM (v.1 a) x Ln))) 0 0 (wA g n) := by
  refine Met.begin RJ7 rfl (by decide) rfl (Nat.le_of_ble_eq_true rfl) ?_
  intro p e s m args below meth c ls ha C hP hS hl
  have hn : 64 ≤ n := C.2.1.1.2.1
  have hl : lv_has ls 4 [(0, .ref (gA g a)), (1, .int x)] := hl
  refine lv_iconst (v := 0) C.1.1 C.1.2.1 dJ7_fill_53178_0 rfl ?_
  refine lv_istore_n (lv' := [(2, .int 0), (0, .ref (gA g a)), (1, .int x)]) C.1.1 C.1.2.1 dJ7_fill_53178_1 rfl hl (by decide) rfl (fun ls hl => ?_)
  refine lv_aload_n C.1.1 C.1.2.1 dJ7_fill_53178_2 rfl (lv_at hl 1 rfl) ?_
  refine r_alen C hP a (by omega) (by assumption) (N := Ln) la dJ7_fill_53178_3 ?_
  refine lv_istore_n (lv' := [(3, .int (nI Ln)), (2, .int 0), (0, .ref (gA g a)), (1, .int x)]) C.1.1 C.1.2.1 dJ7_fill_53178_4 rfl hl (by decide) rfl (fun ls hl => ?_)
  have lp_5 : ∀ (k_5 i : Nat), i ≤ Ln → Ln + 1 ≤ i + k_5 → ∀ (H : Heap) (locs : List Loc) (ls : Array Slot), va_P g.1 vwCl (wl g n (upw v a (fillM (v.1 a) x i))) H → va_S (wA g n) s.heap H locs → lv_has ls 4 [(0, .ref (gA g a)), (1, .int x), (2, .int (nI i)), (3, .int (nI Ln))] → W p l e rmJ7_fill_53178 s m args below meth c H locs 0 0 (MQ below (QG g n (upw v a (fillM (v.1 a) x Ln))) args s 0 0 (wA g n)) (F0 m 5 ls []) := by
    clear hP hS hl
    intro k_5
    induction k_5 with
    | zero => exact fun i h1 h2 => absurd h2 (by omega)
    | succ k_5 ih_5 =>
      intro i hi_5 hk_5 H locs ls hP hS hl
      refine lv_iload_n C.1.1 C.1.2.1 dJ7_fill_53178_5 rfl (lv_at hl 2 rfl) ?_
      refine lv_iload_n C.1.1 C.1.2.1 dJ7_fill_53178_6 rfl (lv_at hl 3 rfl) ?_
      refine lv_icmp_ge (tgt := 20) C.1.1 C.1.2.1 dJ7_fill_53178_7 (by decide) (fun c_1 => ?_) (fun c_1 => ?_)
      · rw [show (nI Ln ≤ nI i) = (Ln ≤ i) from propext (nI_leI (a := Ln) (b := i) (by omega) (by omega))] at c_1
        have hiL : i = Ln := by omega
        exact t_G C rfl hP hS (by rw [hiL]) dJ7_fill_53178_20
      · rw [show (nI Ln ≤ nI i) = (Ln ≤ i) from propext (nI_leI (a := Ln) (b := i) (by omega) (by omega))] at c_1
        refine lv_aload_n C.1.1 C.1.2.1 dJ7_fill_53178_10 rfl (lv_at hl 0 rfl) ?_
        refine lv_iload_n C.1.1 C.1.2.1 dJ7_fill_53178_11 rfl (lv_at hl 2 rfl) ?_
        refine lv_iload_n C.1.1 C.1.2.1 dJ7_fill_53178_12 rfl (lv_at hl 1 rfl) ?_
        refine r_iast C hP hS a (by omega) (by assumption) i rfl (N := Ln) la (by omega) (by omega) dJ7_fill_53178_13 (fun H locs hP hS => ?_)
        obtain ⟨v_2, hv_2⟩ : ∃ zz, zz = up (upw v a (fillM (v.1 a) x i)) a i x := ⟨_, rfl⟩
        rw [← hv_2] at hP
        refine lv_iinc (v := nI (i + 1)) (lv' := [(2, .int (nI (i + 1))), (0, .ref (gA g a)), (1, .int x), (3, .int (nI Ln))]) C.1.1 C.1.2.1 dJ7_fill_53178_14 hl (k := 2) rfl (nI_1 i) (by decide) rfl (fun ls hl => ?_)
        refine lv_goto (tgt := 5) C.1.1 C.1.2.1 dJ7_fill_53178_17 (by decide) ?_
        exact ih_5 (i + 1) (by omega) (by omega) _ _ _ (by rw [hv_2, upw_up, fillM_s] at hP; exact hP) hS (lv_sub hl [1, 2, 0, 3] rfl)
  exact lp_5 (Ln + 1) 0 (Nat.zero_le _) (by omega) _ _ _ (by rw [fillM_0, upw_self]; exact hP) hS (lv_sub hl [2, 3, 1, 0] rfl)

abbrev rmX5_isWithin : Room := { frames := 0, cells := 0, slots := 0, locals := 0 }
set_option maxHeartbeats 4000000 in
set_option maxRecDepth 100000 in
theorem kX5_isWithin (l : Launch) (g : GG) (n : Nat) (v : SV) (x y z : Int32) : Met l yX5_isWithin wsX5_isWithin rmX5_isWithin (PW g n v [.int x, .int y, .int z]) (QB g n (y ≤ x ∧ x ≤ z) v) 0 0 (wA g n) := by
  refine Met.begin RX5 rfl (by decide) rfl (Nat.le_of_ble_eq_true rfl) ?_
  intro p e s m args below meth c ls ha C hP hS hl
  have hn : 64 ≤ n := C.2.1.1.2.1
  have hl : lv_has ls 3 [(0, .int x), (1, .int y), (2, .int z)] := hl
  refine lv_iload_n C.1.1 C.1.2.1 dX5_isWithin_0 rfl (lv_at hl 0 rfl) ?_
  refine lv_iload_n C.1.1 C.1.2.1 dX5_isWithin_1 rfl (lv_at hl 1 rfl) ?_
  refine lv_icmp_lt (tgt := 14) C.1.1 C.1.2.1 dX5_isWithin_2 (by decide) (fun c_1 => ?_) (fun c_1 => ?_)
  · skip
    refine lv_iconst (v := 0) C.1.1 C.1.2.1 dX5_isWithin_14 rfl ?_
    exact t_0 C rfl hP hS (by first | exact ⟨fa_nlt (by assumption), fa_nlt (by assumption)⟩ | exact fun h => absurd h.1 (fa_lt_nle (by assumption)) | exact fun h => absurd h.2 (fa_lt_nle (by assumption))) rfl dX5_isWithin_15
  · skip
    refine lv_iload_n C.1.1 C.1.2.1 dX5_isWithin_5 rfl (lv_at hl 0 rfl) ?_
    refine lv_iload_n C.1.1 C.1.2.1 dX5_isWithin_6 rfl (lv_at hl 2 rfl) ?_
    refine lv_icmp_gt (tgt := 14) C.1.1 C.1.2.1 dX5_isWithin_7 (by decide) (fun c_2 => ?_) (fun c_2 => ?_)
    · skip
      refine lv_iconst (v := 0) C.1.1 C.1.2.1 dX5_isWithin_14 rfl ?_
      exact t_0 C rfl hP hS (by first | exact ⟨fa_nlt (by assumption), fa_nlt (by assumption)⟩ | exact fun h => absurd h.1 (fa_lt_nle (by assumption)) | exact fun h => absurd h.2 (fa_lt_nle (by assumption))) rfl dX5_isWithin_15
    · skip
      refine lv_iconst (v := 1) C.1.1 C.1.2.1 dX5_isWithin_10 rfl ?_
      refine lv_goto (tgt := 15) C.1.1 C.1.2.1 dX5_isWithin_11 (by decide) ?_
      exact t_1 C rfl hP hS (by first | exact ⟨fa_nlt (by assumption), fa_nlt (by assumption)⟩ | exact fun h => absurd h.1 (fa_lt_nle (by assumption)) | exact fun h => absurd h.2 (fa_lt_nle (by assumption))) rfl dX5_isWithin_15

abbrev rmX5_isGood : Room := { frames := 1, cells := 0, slots := 0, locals := 22 }
set_option maxHeartbeats 4000000 in
set_option maxRecDepth 100000 in
theorem kX5_isGood (l : Launch) (g : GG) (n : Nat) (v : SV) (x : Int32) : Met l yX5_isGood wsX5_isGood rmX5_isGood (PW g n v [.int x]) (QB g n (∃ j : Nat, j < 12 ∧ x = nI j) v) 0 0 (wA g n) := by
  refine Met.begin RX5 rfl (by decide) rfl (Nat.le_of_ble_eq_true rfl) ?_
  intro p e s m args below meth c ls ha C hP hS hl
  have hn : 64 ≤ n := C.2.1.1.2.1
  have hl : lv_has ls 1 [(0, .int x)] := hl
  refine lv_iload_n C.1.1 C.1.2.1 dX5_isGood_0 rfl (lv_at hl 0 rfl) ?_
  refine lv_iconst (v := 0) C.1.1 C.1.2.1 dX5_isGood_1 rfl ?_
  refine lv_bipush (v := 11) C.1.1 C.1.2.1 dX5_isGood_2 rfl ?_
  refine a_B hS (run_S C hP hS hl.1 [.int x, .int 0, .int 11] (kX5_isWithin l g n v x 0 11) gX5_isGood_X5_isWithin hdX5_isWithin rfl ⟨rfl, rfl⟩ ⟨Nat.le_of_ble_eq_true rfl, Nat.le_of_ble_eq_true rfl⟩ rfl [] rfl (Nat.le_of_ble_eq_true rfl) dX5_isGood_4 ⟨Nat.zero_le _, Nat.zero_le _⟩) (fun b_1 H locs hP hS => ?_) (fun b_1 H locs hP hS => ?_)
  · skip
    have b_1 := (in_iffC 12 (by decide) (by decide)).mp b_1
    obtain ⟨jx, hjx, rfl⟩ := b_1
    exact t_1 C rfl hP hS (⟨jx, hjx, rfl⟩) rfl dX5_isGood_7
  · skip
    have b_1 := fun h => b_1 ((in_iffC 12 (by decide) (by decide)).mpr h)
    exact t_0 C rfl hP hS b_1 rfl dX5_isGood_7

abbrev rmX5_isPlace : Room := { frames := 1, cells := 0, slots := 0, locals := 22 }
set_option maxHeartbeats 4000000 in
set_option maxRecDepth 100000 in
theorem kX5_isPlace (l : Launch) (g : GG) (n : Nat) (v : SV) (x : Int32) : Met l yX5_isPlace wsX5_isPlace rmX5_isPlace (PW g n v [.int x]) (QB g n (∃ j : Nat, j < 6 ∧ x = nI j) v) 0 0 (wA g n) := by
  refine Met.begin RX5 rfl (by decide) rfl (Nat.le_of_ble_eq_true rfl) ?_
  intro p e s m args below meth c ls ha C hP hS hl
  have hn : 64 ≤ n := C.2.1.1.2.1
  have hl : lv_has ls 1 [(0, .int x)] := hl
  refine lv_iload_n C.1.1 C.1.2.1 dX5_isPlace_0 rfl (lv_at hl 0 rfl) ?_
  refine lv_iconst (v := 0) C.1.1 C.1.2.1 dX5_isPlace_1 rfl ?_
  refine lv_iconst (v := 5) C.1.1 C.1.2.1 dX5_isPlace_2 rfl ?_
  refine a_B hS (run_S C hP hS hl.1 [.int x, .int 0, .int 5] (kX5_isWithin l g n v x 0 5) gX5_isPlace_X5_isWithin hdX5_isWithin rfl ⟨rfl, rfl⟩ ⟨Nat.le_of_ble_eq_true rfl, Nat.le_of_ble_eq_true rfl⟩ rfl [] rfl (Nat.le_of_ble_eq_true rfl) dX5_isPlace_3 ⟨Nat.zero_le _, Nat.zero_le _⟩) (fun b_1 H locs hP hS => ?_) (fun b_1 H locs hP hS => ?_)
  · skip
    have b_1 := (in_iffC 6 (by decide) (by decide)).mp b_1
    obtain ⟨jx, hjx, rfl⟩ := b_1
    exact t_1 C rfl hP hS (⟨jx, hjx, rfl⟩) rfl dX5_isPlace_6
  · skip
    have b_1 := fun h => b_1 ((in_iffC 6 (by decide) (by decide)).mpr h)
    exact t_0 C rfl hP hS b_1 rfl dX5_isPlace_6

abbrev rmX5_isKind : Room := { frames := 1, cells := 0, slots := 0, locals := 22 }
set_option maxHeartbeats 4000000 in
set_option maxRecDepth 100000 in
theorem kX5_isKind (l : Launch) (g : GG) (n : Nat) (v : SV) (x : Int32) : Met l yX5_isKind wsX5_isKind rmX5_isKind (PW g n v [.int x]) (QB g n (∃ j : Nat, j < 7 ∧ x = nI j) v) 0 0 (wA g n) := by
  refine Met.begin RX5 rfl (by decide) rfl (Nat.le_of_ble_eq_true rfl) ?_
  intro p e s m args below meth c ls ha C hP hS hl
  have hn : 64 ≤ n := C.2.1.1.2.1
  have hl : lv_has ls 1 [(0, .int x)] := hl
  refine lv_iload_n C.1.1 C.1.2.1 dX5_isKind_0 rfl (lv_at hl 0 rfl) ?_
  refine lv_iconst (v := 0) C.1.1 C.1.2.1 dX5_isKind_1 rfl ?_
  refine lv_bipush (v := 6) C.1.1 C.1.2.1 dX5_isKind_2 rfl ?_
  refine a_B hS (run_S C hP hS hl.1 [.int x, .int 0, .int 6] (kX5_isWithin l g n v x 0 6) gX5_isKind_X5_isWithin hdX5_isWithin rfl ⟨rfl, rfl⟩ ⟨Nat.le_of_ble_eq_true rfl, Nat.le_of_ble_eq_true rfl⟩ rfl [] rfl (Nat.le_of_ble_eq_true rfl) dX5_isKind_4 ⟨Nat.zero_le _, Nat.zero_le _⟩) (fun b_1 H locs hP hS => ?_) (fun b_1 H locs hP hS => ?_)
  · skip
    have b_1 := (in_iffC 7 (by decide) (by decide)).mp b_1
    obtain ⟨jx, hjx, rfl⟩ := b_1
    exact t_1 C rfl hP hS (⟨jx, hjx, rfl⟩) rfl dX5_isKind_7
  · skip
    have b_1 := fun h => b_1 ((in_iffC 7 (by decide) (by decide)).mpr h)
    exact t_0 C rfl hP hS b_1 rfl dX5_isKind_7

abbrev rmX5_isSpot : Room := { frames := 1, cells := 0, slots := 0, locals := 22 }
set_option maxHeartbeats 4000000 in
set_option maxRecDepth 100000 in
theorem kX5_isSpot (l : Launch) (g : GG) (n : Nat) (v : SV) (x : Int32) : Met l yX5_isSpot wsX5_isSpot rmX5_isSpot (PW g n v [.int x]) (QB g n (∃ j : Nat, j < 10 ∧ x = nI j) v) 0 0 (wA g n) := by
  refine Met.begin RX5 rfl (by decide) rfl (Nat.le_of_ble_eq_true rfl) ?_
  intro p e s m args below meth c ls ha C hP hS hl
  have hn : 64 ≤ n := C.2.1.1.2.1
  have hl : lv_has ls 1 [(0, .int x)] := hl
  refine lv_iload_n C.1.1 C.1.2.1 dX5_isSpot_0 rfl (lv_at hl 0 rfl) ?_
  refine lv_iconst (v := 0) C.1.1 C.1.2.1 dX5_isSpot_1 rfl ?_
  refine lv_bipush (v := 9) C.1.1 C.1.2.1 dX5_isSpot_2 rfl ?_
  refine a_B hS (run_S C hP hS hl.1 [.int x, .int 0, .int 9] (kX5_isWithin l g n v x 0 9) gX5_isSpot_X5_isWithin hdX5_isWithin rfl ⟨rfl, rfl⟩ ⟨Nat.le_of_ble_eq_true rfl, Nat.le_of_ble_eq_true rfl⟩ rfl [] rfl (Nat.le_of_ble_eq_true rfl) dX5_isSpot_4 ⟨Nat.zero_le _, Nat.zero_le _⟩) (fun b_1 H locs hP hS => ?_) (fun b_1 H locs hP hS => ?_)
  · skip
    have b_1 := (in_iffC 10 (by decide) (by decide)).mp b_1
    obtain ⟨jx, hjx, rfl⟩ := b_1
    exact t_1 C rfl hP hS (⟨jx, hjx, rfl⟩) rfl dX5_isSpot_7
  · skip
    have b_1 := fun h => b_1 ((in_iffC 10 (by decide) (by decide)).mpr h)
    exact t_0 C rfl hP hS b_1 rfl dX5_isSpot_7

abbrev rmX5_isSheet : Room := { frames := 1, cells := 0, slots := 0, locals := 22 }
set_option maxHeartbeats 4000000 in
set_option maxRecDepth 100000 in
theorem kX5_isSheet (l : Launch) (g : GG) (n : Nat) (v : SV) (x : Int32) : Met l yX5_isSheet wsX5_isSheet rmX5_isSheet (PW g n v [.int x]) (QB g n (∃ j : Nat, j < 4 ∧ x = nI j) v) 0 0 (wA g n) := by
  refine Met.begin RX5 rfl (by decide) rfl (Nat.le_of_ble_eq_true rfl) ?_
  intro p e s m args below meth c ls ha C hP hS hl
  have hn : 64 ≤ n := C.2.1.1.2.1
  have hl : lv_has ls 1 [(0, .int x)] := hl
  refine lv_iload_n C.1.1 C.1.2.1 dX5_isSheet_0 rfl (lv_at hl 0 rfl) ?_
  refine lv_iconst (v := 0) C.1.1 C.1.2.1 dX5_isSheet_1 rfl ?_
  refine lv_iconst (v := 3) C.1.1 C.1.2.1 dX5_isSheet_2 rfl ?_
  refine a_B hS (run_S C hP hS hl.1 [.int x, .int 0, .int 3] (kX5_isWithin l g n v x 0 3) gX5_isSheet_X5_isWithin hdX5_isWithin rfl ⟨rfl, rfl⟩ ⟨Nat.le_of_ble_eq_true rfl, Nat.le_of_ble_eq_true rfl⟩ rfl [] rfl (Nat.le_of_ble_eq_true rfl) dX5_isSheet_3 ⟨Nat.zero_le _, Nat.zero_le _⟩) (fun b_1 H locs hP hS => ?_) (fun b_1 H locs hP hS => ?_)
  · skip
    have b_1 := (in_iffC 4 (by decide) (by decide)).mp b_1
    obtain ⟨jx, hjx, rfl⟩ := b_1
    exact t_1 C rfl hP hS (⟨jx, hjx, rfl⟩) rfl dX5_isSheet_6
  · skip
    have b_1 := fun h => b_1 ((in_iffC 4 (by decide) (by decide)).mpr h)
    exact t_0 C rfl hP hS b_1 rfl dX5_isSheet_6

abbrev rmX2_ofCrier : Room := { frames := 0, cells := 0, slots := 0, locals := 0 }
set_option maxHeartbeats 4000000 in
set_option maxRecDepth 100000 in
theorem kX2_ofCrier (l : Launch) (g : GG) (n : Nat) (v : SV) (x : Int32) (w : SV) (k : Nat) (d : Nat → Int32) (N : Nat) (hk : isSt k) (hv : v = stW w k d) (hC : okC d N) : Met l yX2_ofCrier wsX2_ofCrier rmX2_ofCrier (PW g n v [.ref (gA g k), .int x]) (QF g n (ofcF d x) v) 0 0 (wA g n) := by
  refine Met.begin RX2 rfl (by decide) rfl (Nat.le_of_ble_eq_true rfl) ?_
  intro p e s m args below meth c ls ha C hP hS hl
  have hn : 64 ≤ n := C.2.1.1.2.1
  have hi2 : ∀ w ∈ u_ws RX2 TX2 11, w ∈ wsX2_ofCrier := by decide +kernel
  have hl : lv_has ls 2 [(0, .ref (gA g k)), (1, .int x)] := hl
  rw [hv] at hP
  have hM := okC_M hC
  have h8 := hC.1
  have hk64 : k + 13 ≤ 64 := by rcases hk with h | h | h <;> omega
  obtain ⟨kd0, kd1, kd2, kd3, kd4, ln1, ln2, ln4⟩ := kd_st hk
  refine lv_iload_n C.1.1 C.1.2.1 dX2_ofCrier_0 rfl (lv_at hl 1 rfl) ?_
  refine lv_if_ne (tgt := 9) C.1.1 C.1.2.1 dX2_ofCrier_1 (by decide) (fun c_1 => ?_) (fun c_1 => ?_)
  · skip
    refine lv_iload_n C.1.1 C.1.2.1 dX2_ofCrier_9 rfl (lv_at hl 1 rfl) ?_
    refine lv_iconst (v := 1) C.1.1 C.1.2.1 dX2_ofCrier_10 rfl ?_
    refine lv_icmp_ne (tgt := 21) C.1.1 C.1.2.1 dX2_ofCrier_11 (by decide) (fun c_2 => ?_) (fun c_2 => ?_)
    · skip
      refine lv_aload_n C.1.1 C.1.2.1 dX2_ofCrier_21 rfl (lv_at hl 0 rfl) ?_
      refine r_get C hP k 2 (by omega) (by assumption) (by decide) rfl hi2 2 (by decide) (List.mem_of_getElem? (i := 3) rfl) rfl (val := .int ((stW w k d).1 k 2)) rfl dX2_ofCrier_22 ?_
      refine lv_topE (d 5) (st_at (i := 5) (sl_k rfl) (by decide)) ?_
      exact t_F C rfl hP hS (by simp [ofcF, c_1, c_2]) hv.symm dX2_ofCrier_25
    · skip
      refine lv_aload_n C.1.1 C.1.2.1 dX2_ofCrier_14 rfl (lv_at hl 0 rfl) ?_
      refine r_get C hP k 2 (by omega) (by assumption) (by decide) rfl hi2 1 (by decide) (List.mem_of_getElem? (i := 2) rfl) rfl (val := .int ((stW w k d).1 k 1)) rfl dX2_ofCrier_15 ?_
      refine lv_topE (d 4) (st_at (i := 4) (sl_k rfl) (by decide)) ?_
      refine lv_goto (tgt := 25) C.1.1 C.1.2.1 dX2_ofCrier_18 (by decide) ?_
      exact t_F C rfl hP hS (by simp [ofcF, c_1, c_2]) hv.symm dX2_ofCrier_25
  · skip
    refine lv_aload_n C.1.1 C.1.2.1 dX2_ofCrier_4 rfl (lv_at hl 0 rfl) ?_
    refine r_get C hP k 2 (by omega) (by assumption) (by decide) rfl hi2 0 (by decide) (List.mem_of_getElem? (i := 1) rfl) rfl (val := .int ((stW w k d).1 k 0)) rfl dX2_ofCrier_5 ?_
    refine lv_topE (d 3) (st_at (i := 3) (sl_k rfl) (by decide)) ?_
    exact t_F C rfl hP hS (by simp [ofcF, c_1]) hv.symm dX2_ofCrier_8

abbrev rmX2_has : Room := { frames := 1, cells := 0, slots := 0, locals := 22 }
set_option maxHeartbeats 4000000 in
set_option maxRecDepth 100000 in
theorem kX2_has (l : Launch) (g : GG) (n : Nat) (v : SV) (x : Int32) (w : SV) (k : Nat) (d : Nat → Int32) (N : Nat) (hk : isSt k) (hv : v = stW w k d) (hC : okC d N) : Met l yX2_has wsX2_has rmX2_has (PW g n v [.ref (gA g k), .int x]) (QB g n (∃ j : Nat, j < N ∧ x = nI j) v) 0 0 (wA g n) := by
  refine Met.begin RX2 rfl (by decide) rfl (Nat.le_of_ble_eq_true rfl) ?_
  intro p e s m args below meth c ls ha C hP hS hl
  have hn : 64 ≤ n := C.2.1.1.2.1
  have hi2 : ∀ w ∈ u_ws RX2 TX2 11, w ∈ wsX2_has := by decide +kernel
  have hl : lv_has ls 2 [(0, .ref (gA g k)), (1, .int x)] := hl
  rw [hv] at hP
  have hM := okC_M hC
  have h8 := hC.1
  have hk64 : k + 13 ≤ 64 := by rcases hk with h | h | h <;> omega
  obtain ⟨kd0, kd1, kd2, kd3, kd4, ln1, ln2, ln4⟩ := kd_st hk
  refine lv_iload_n C.1.1 C.1.2.1 dX2_has_0 rfl (lv_at hl 1 rfl) ?_
  refine lv_iconst (v := 0) C.1.1 C.1.2.1 dX2_has_1 rfl ?_
  refine lv_aload_n C.1.1 C.1.2.1 dX2_has_2 rfl (lv_at hl 0 rfl) ?_
  refine r_get C hP k 2 (by omega) (by assumption) (by decide) rfl hi2 8 (by decide) (List.mem_of_getElem? (i := 1) rfl) rfl (val := .int ((stW w k d).1 k 8)) rfl dX2_has_3 ?_
  refine lv_topE (nI N) ((st_at (i := 0) (sl_k rfl) (by decide)).trans hC.2.1) ?_
  refine lv_iconst (v := 1) C.1.1 C.1.2.1 dX2_has_6 rfl ?_
  refine lv_isub C.1.1 C.1.2.1 dX2_has_7 ?_
  refine a_B hS (run_SN "EmptyBarrow" C hP hS hl.1 [.int x, .int 0, .int ((nI N) - 1)] (kX5_isWithin l g n (stW w k d) x 0 ((nI N) - 1)) gX2_has_X5_isWithin_n66 C.2.1.2.2.2.2.2.2.2.1 (List.mem_of_getElem? (i := 3) rfl) (List.mem_of_getElem? (i := 2) rfl) hdX5_isWithin rfl ⟨rfl, rfl⟩ ⟨Nat.le_of_ble_eq_true rfl, Nat.le_of_ble_eq_true rfl⟩ rfl [] rfl (Nat.le_of_ble_eq_true rfl) dX2_has_8 ⟨Nat.zero_le _, Nat.zero_le _⟩) (fun b_1 H locs hP hS => ?_) (fun b_1 H locs hP hS => ?_)
  · skip
    exact t_1 C rfl hP hS ((in_iffC N (by omega) (pred_toInt N h8)).mp b_1) hv.symm dX2_has_11
  · skip
    exact t_0 C rfl hP hS (fun h => b_1 ((in_iffC N (by omega) (pred_toInt N h8)).mpr h)) hv.symm dX2_has_11

abbrev rmX2_isFull : Room := { frames := 0, cells := 0, slots := 0, locals := 0 }
set_option maxHeartbeats 4000000 in
set_option maxRecDepth 100000 in
theorem kX2_isFull (l : Launch) (g : GG) (n : Nat) (v : SV)  (w : SV) (k : Nat) (d : Nat → Int32) (N : Nat) (hk : isSt k) (hv : v = stW w k d) (hC : okC d N) : Met l yX2_isFull wsX2_isFull rmX2_isFull (PW g n v [.ref (gA g k)]) (QB g n (N = 8) v) 0 0 (wA g n) := by
  refine Met.begin RX2 rfl (by decide) rfl (Nat.le_of_ble_eq_true rfl) ?_
  intro p e s m args below meth c ls ha C hP hS hl
  have hn : 64 ≤ n := C.2.1.1.2.1
  have hi2 : ∀ w ∈ u_ws RX2 TX2 11, w ∈ wsX2_isFull := by decide +kernel
  have hl : lv_has ls 1 [(0, .ref (gA g k))] := hl
  rw [hv] at hP
  have hM := okC_M hC
  have h8 := hC.1
  have hk64 : k + 13 ≤ 64 := by rcases hk with h | h | h <;> omega
  obtain ⟨kd0, kd1, kd2, kd3, kd4, ln1, ln2, ln4⟩ := kd_st hk
  refine lv_aload_n C.1.1 C.1.2.1 dX2_isFull_0 rfl (lv_at hl 0 rfl) ?_
  refine r_get C hP k 2 (by omega) (by assumption) (by decide) rfl hi2 8 (by decide) (List.mem_of_getElem? (i := 1) rfl) rfl (val := .int ((stW w k d).1 k 8)) rfl dX2_isFull_1 ?_
  refine lv_topE (nI N) ((st_at (i := 0) (sl_k rfl) (by decide)).trans hC.2.1) ?_
  refine lv_bipush (v := 8) C.1.1 C.1.2.1 dX2_isFull_4 rfl ?_
  refine lv_icmp_lt (tgt := 13) C.1.1 C.1.2.1 dX2_isFull_6 (by decide) (fun c_1 => ?_) (fun c_1 => ?_)
  · rw [show (nI N < 8) = (N < 8) from propext (nI_ltI (a := N) (b := 8) (by omega) (by omega))] at c_1
    refine lv_iconst (v := 0) C.1.1 C.1.2.1 dX2_isFull_13 rfl ?_
    exact t_0 C rfl hP hS (by omega) hv.symm dX2_isFull_14
  · rw [show (nI N < 8) = (N < 8) from propext (nI_ltI (a := N) (b := 8) (by omega) (by omega))] at c_1
    refine lv_iconst (v := 1) C.1.1 C.1.2.1 dX2_isFull_9 rfl ?_
    refine lv_goto (tgt := 14) C.1.1 C.1.2.1 dX2_isFull_10 (by decide) ?_
    exact t_1 C rfl hP hS (by omega) hv.symm dX2_isFull_14

abbrev rmX2_moveIn : Room := { frames := 1, cells := 0, slots := 0, locals := 22 }
set_option maxHeartbeats 4000000 in
set_option maxRecDepth 100000 in
theorem kX2_moveIn (l : Launch) (g : GG) (n : Nat) (v : SV) (x y : Int32) (w : SV) (k : Nat) (d : Nat → Int32) (N : Nat) (hk : isSt k) (hv : v = stW w k d) (hC : okC d N) : Met l yX2_moveIn wsX2_moveIn rmX2_moveIn (PW g n v [.ref (gA g k), .int x, .int y]) (QF g n (if N = 8 then -1 else nI N) (stW w k (if N = 8 then d else comesM d N x y))) 0 0 (wA g n) := by
  refine Met.begin RX2 rfl (by decide) rfl (Nat.le_of_ble_eq_true rfl) ?_
  intro p e s m args below meth c ls ha C hP hS hl
  have hn : 64 ≤ n := C.2.1.1.2.1
  have hi0 : ∀ w ∈ u_ws RX0 TX0 6, w ∈ wsX2_moveIn := by decide +kernel
  have hi2 : ∀ w ∈ u_ws RX2 TX2 11, w ∈ wsX2_moveIn := by decide +kernel
  have hl : lv_has ls 3 [(0, .ref (gA g k)), (1, .int x), (2, .int y)] := hl
  rw [hv] at hP
  have hM := okC_M hC
  have h8 := hC.1
  have hk64 : k + 13 ≤ 64 := by rcases hk with h | h | h <;> omega
  obtain ⟨kd0, kd1, kd2, kd3, kd4, ln1, ln2, ln4⟩ := kd_st hk
  refine lv_aload_n C.1.1 C.1.2.1 dX2_moveIn_0 rfl (lv_at hl 0 rfl) ?_
  refine a_B hS (run_V C hP hS hl.1 k 2 (by omega) (by assumption) (by decide) rfl [] (kX2_isFull l g n (stW w k d) w k d N hk rfl hC) gX2_moveIn_X2_isFull rfl hdX2_isFull rfl ⟨rfl, rfl⟩ ⟨Nat.le_of_ble_eq_true rfl, Nat.le_of_ble_eq_true rfl⟩ rfl [] rfl (Nat.le_of_ble_eq_true rfl) dX2_moveIn_1 ⟨Nat.zero_le _, Nat.zero_le _⟩) (fun b_1 H locs hP hS => ?_) (fun b_1 H locs hP hS => ?_)
  · skip
    refine lv_if_eq (tgt := 9) C.1.1 C.1.2.1 dX2_moveIn_4 (by decide) (fun c_2 => absurd c_2 (by decide)) (fun _ => ?_)
    refine lv_iconst (v := (-1)) C.1.1 C.1.2.1 dX2_moveIn_7 rfl ?_
    exact t_F C rfl hP hS (by rw [if_pos b_1]) (by rw [if_pos b_1]) dX2_moveIn_8
  · skip
    refine lv_if_eq (tgt := 9) C.1.1 C.1.2.1 dX2_moveIn_4 (by decide) (fun _ => ?_) (fun c_3 => absurd c_3 (by decide))
    have h7 : N < 8 := by omega
    refine lv_aload_n C.1.1 C.1.2.1 dX2_moveIn_9 rfl (lv_at hl 0 rfl) ?_
    refine r_get C hP k 2 (by omega) (by assumption) (by decide) rfl hi2 9 (by decide) (List.mem_of_getElem? (i := 1) rfl) rfl (val := .ref (gA g (k + 3))) rfl dX2_moveIn_10 ?_
    refine lv_aload_n C.1.1 C.1.2.1 dX2_moveIn_13 rfl (lv_at hl 0 rfl) ?_
    refine r_get C hP k 2 (by omega) (by assumption) (by decide) rfl hi2 8 (by decide) (List.mem_of_getElem? (i := 2) rfl) rfl (val := .int ((stW w k d).1 k 8)) rfl dX2_moveIn_14 ?_
    refine lv_topE (nI N) ((st_at (i := 0) (sl_k rfl) (by decide)).trans hC.2.1) ?_
    refine r_aald C hP (k + 3) (by omega) (by assumption) N rfl (by omega) dX2_moveIn_17 ?_
    refine lv_iload_n C.1.1 C.1.2.1 dX2_moveIn_18 rfl (lv_at hl 1 rfl) ?_
    refine lv_iload_n C.1.1 C.1.2.1 dX2_moveIn_19 rfl (lv_at hl 2 rfl) ?_
    refine a_G hS (run_V C hP hS hl.1 (k + 5 + N) 0 (by omega) (kd_stR k hk N (by omega)) (by decide) rfl [.int x, .int y] (kX0_moveInAs l g n (stW w k d) (k + 5 + N) (by omega) (kd_stR k hk N (by omega)) x y) gX2_moveIn_X0_moveInAs rfl hdX0_moveInAs rfl ⟨rfl, rfl⟩ ⟨Nat.le_of_ble_eq_true rfl, Nat.le_of_ble_eq_true rfl⟩ rfl [] rfl (Nat.le_of_ble_eq_true rfl) dX2_moveIn_20 ⟨Nat.zero_le _, Nat.zero_le _⟩) (fun H locs hP hS => ?_)
    rw [show upw (stW w k d) (k + 5 + N) (mvInR ((stW w k d).1 (k + 5 + N)) x y) = stW w k (mvQ d N x y) from st_mvIn (by omega)] at hP
    refine lv_aload_n C.1.1 C.1.2.1 dX2_moveIn_23 rfl (lv_at hl 0 rfl) ?_
    refine lv_dup C.1.1 C.1.2.1 dX2_moveIn_24 rfl ?_
    refine r_get C hP k 2 (by omega) (by assumption) (by decide) rfl hi2 8 (by decide) (List.mem_of_getElem? (i := 2) rfl) rfl (val := .int ((stW w k (mvQ d N x y)).1 k 8)) rfl dX2_moveIn_25 ?_
    refine lv_topE (nI N) ((st_at (i := 0) (sl_k rfl) (by decide)).trans (mvQ_0.trans hC.2.1)) ?_
    refine lv_iconst (v := 1) C.1.1 C.1.2.1 dX2_moveIn_28 rfl ?_
    refine lv_iadd C.1.1 C.1.2.1 dX2_moveIn_29 ?_
    refine lv_topE (nI (N + 1)) (nI_add N 1) ?_
    refine r_put C hP hS k 2 (by omega) (by assumption) (by decide) rfl hi2 tyX2 tyX2_ok nmX2 8 (by decide) (List.mem_of_getElem? (i := 2) rfl) rfl rfl rfl rfl rfl (Nat.le_of_ble_eq_true rfl) dX2_moveIn_30 (fun H locs hP hS => ?_)
    rw [show up (stW w k (mvQ d N x y)) k 8 (nI (N + 1)) = stW w k (upd (mvQ d N x y) 0 (nI (N + 1))) from st_up (sl_k rfl) (by decide)] at hP
    refine lv_aload_n C.1.1 C.1.2.1 dX2_moveIn_33 rfl (lv_at hl 0 rfl) ?_
    refine r_get C hP k 2 (by omega) (by assumption) (by decide) rfl hi2 8 (by decide) (List.mem_of_getElem? (i := 2) rfl) rfl (val := .int ((stW w k (upd (mvQ d N x y) 0 (nI (N + 1)))).1 k 8)) rfl dX2_moveIn_34 ?_
    refine lv_topE (nI (N + 1)) (st_at (i := 0) (sl_k rfl) (by decide)) ?_
    refine lv_iconst (v := 1) C.1.1 C.1.2.1 dX2_moveIn_37 rfl ?_
    refine lv_isub C.1.1 C.1.2.1 dX2_moveIn_38 ?_
    refine lv_topE (nI N) (nI_pred N) ?_
    exact t_F C rfl hP hS (by rw [if_neg b_1]) (by rw [if_neg b_1, mvQ_come]) dX2_moveIn_39

abbrev rmX2_tell : Room := { frames := 3, cells := 0, slots := 0, locals := 68 }
set_option maxHeartbeats 4000000 in
set_option maxRecDepth 100000 in
theorem kX2_tell (l : Launch) (g : GG) (n : Nat) (v : SV) (r : Nat) (y : Int32) (w : SV) (k : Nat) (d : Nat → Int32) (N : Nat) (hk : isSt k) (hv : v = stW w k d) (hC : okC d N) (hr : r < N) : Met l yX2_tell wsX2_tell rmX2_tell (PW g n v [.ref (gA g k), .int (nI r), .int y]) (QF g n (tellF (rowM d r) y (d 3) (d 5)) v) 0 0 (wA g n) := by
  refine Met.begin RX2 rfl (by decide) rfl (Nat.le_of_ble_eq_true rfl) ?_
  intro p e s m args below meth c ls ha C hP hS hl
  have hn : 64 ≤ n := C.2.1.1.2.1
  have hi0 : ∀ w ∈ u_ws RX0 TX0 6, w ∈ wsX2_tell := by decide +kernel
  have hi2 : ∀ w ∈ u_ws RX2 TX2 11, w ∈ wsX2_tell := by decide +kernel
  have hl : lv_has ls 3 [(0, .ref (gA g k)), (1, .int (nI r)), (2, .int y)] := hl
  rw [hv] at hP
  have hM := okC_M hC
  have h8 := hC.1
  have hk64 : k + 13 ≤ 64 := by rcases hk with h | h | h <;> omega
  obtain ⟨kd0, kd1, kd2, kd3, kd4, ln1, ln2, ln4⟩ := kd_st hk
  refine lv_aload_n C.1.1 C.1.2.1 dX2_tell_0 rfl (lv_at hl 0 rfl) ?_
  refine r_get C hP k 2 (by omega) (by assumption) (by decide) rfl hi2 9 (by decide) (List.mem_of_getElem? (i := 1) rfl) rfl (val := .ref (gA g (k + 3))) rfl dX2_tell_1 ?_
  refine lv_iload_n C.1.1 C.1.2.1 dX2_tell_4 rfl (lv_at hl 1 rfl) ?_
  refine r_aald C hP (k + 3) (by omega) (by assumption) r rfl (by omega) dX2_tell_5 ?_
  refine lv_iload_n C.1.1 C.1.2.1 dX2_tell_6 rfl (lv_at hl 2 rfl) ?_
  refine lv_aload_n C.1.1 C.1.2.1 dX2_tell_7 rfl (lv_at hl 0 rfl) ?_
  refine r_get C hP k 2 (by omega) (by assumption) (by decide) rfl hi2 0 (by decide) (List.mem_of_getElem? (i := 2) rfl) rfl (val := .int ((stW w k d).1 k 0)) rfl dX2_tell_8 ?_
  refine lv_topE (d 3) (st_at (i := 3) (sl_k rfl) (by decide)) ?_
  refine lv_aload_n C.1.1 C.1.2.1 dX2_tell_11 rfl (lv_at hl 0 rfl) ?_
  refine r_get C hP k 2 (by omega) (by assumption) (by decide) rfl hi2 2 (by decide) (List.mem_of_getElem? (i := 3) rfl) rfl (val := .int ((stW w k d).1 k 2)) rfl dX2_tell_12 ?_
  refine lv_topE (d 5) (st_at (i := 5) (sl_k rfl) (by decide)) ?_
  refine a_F hS (run_V C hP hS hl.1 (k + 5 + r) 0 (by omega) (kd_stR k hk r (by omega)) (by decide) rfl [.int y, .int (d 3), .int (d 5)] (kX0_tell l g n (stW w k d) (k + 5 + r) (by omega) (kd_stR k hk r (by omega)) y (d 3) (d 5) (by obtain ⟨q, h1, h2⟩ := okC_R hC hr 2 (by decide); exact ⟨q, h1, (st_six (by omega) 2 (by decide)).trans h2⟩)) gX2_tell_X0_tell rfl hdX0_tell rfl ⟨rfl, rfl⟩ ⟨Nat.le_of_ble_eq_true rfl, Nat.le_of_ble_eq_true rfl⟩ rfl [] rfl (Nat.le_of_ble_eq_true rfl) dX2_tell_15 ⟨Nat.zero_le _, Nat.zero_le _⟩) (fun H locs hP hS => ?_)
  exact t_F C rfl hP hS (tell6 (st_six (by omega)) _ _ _) hv.symm dX2_tell_18

abbrev rmX2_everybody : Room := { frames := 0, cells := 0, slots := 0, locals := 0 }
set_option maxHeartbeats 4000000 in
set_option maxRecDepth 100000 in
theorem kX2_everybody (l : Launch) (g : GG) (n : Nat) (v : SV)  (w : SV) (k : Nat) (d : Nat → Int32) (N : Nat) (hk : isSt k) (hv : v = stW w k d) (hC : okC d N) : Met l yX2_everybody wsX2_everybody rmX2_everybody (PW g n v [.ref (gA g k)]) (QF g n (1 <<< (nI N &&& 31) - 1) v) 0 0 (wA g n) := by
  refine Met.begin RX2 rfl (by decide) rfl (Nat.le_of_ble_eq_true rfl) ?_
  intro p e s m args below meth c ls ha C hP hS hl
  have hn : 64 ≤ n := C.2.1.1.2.1
  have hi2 : ∀ w ∈ u_ws RX2 TX2 11, w ∈ wsX2_everybody := by decide +kernel
  have hl : lv_has ls 1 [(0, .ref (gA g k))] := hl
  rw [hv] at hP
  have hM := okC_M hC
  have h8 := hC.1
  have hk64 : k + 13 ≤ 64 := by rcases hk with h | h | h <;> omega
  obtain ⟨kd0, kd1, kd2, kd3, kd4, ln1, ln2, ln4⟩ := kd_st hk
  refine lv_iconst (v := 1) C.1.1 C.1.2.1 dX2_everybody_0 rfl ?_
  refine lv_aload_n C.1.1 C.1.2.1 dX2_everybody_1 rfl (lv_at hl 0 rfl) ?_
  refine r_get C hP k 2 (by omega) (by assumption) (by decide) rfl hi2 8 (by decide) (List.mem_of_getElem? (i := 1) rfl) rfl (val := .int ((stW w k d).1 k 8)) rfl dX2_everybody_2 ?_
  refine lv_topE (nI N) ((st_at (i := 0) (sl_k rfl) (by decide)).trans hC.2.1) ?_
  refine lv_ishl C.1.1 C.1.2.1 dX2_everybody_5 ?_
  refine lv_iconst (v := 1) C.1.1 C.1.2.1 dX2_everybody_6 rfl ?_
  refine lv_isub C.1.1 C.1.2.1 dX2_everybody_7 ?_
  exact t_F C rfl hP hS rfl hv.symm dX2_everybody_8

abbrev rmX2_allHope : Room := { frames := 0, cells := 0, slots := 0, locals := 0 }
set_option maxHeartbeats 4000000 in
set_option maxRecDepth 100000 in
theorem kX2_allHope (l : Launch) (g : GG) (n : Nat) (v : SV)  (w : SV) (k : Nat) (d : Nat → Int32) (N : Nat) (hk : isSt k) (hv : v = stW w k d) (hC : okC d N) : Met l yX2_allHope wsX2_allHope rmX2_allHope (PW g n v [.ref (gA g k)]) (QF g n (sumM d 3 N) v) 0 0 (wA g n) := by
  refine Met.begin RX2 rfl (by decide) rfl (Nat.le_of_ble_eq_true rfl) ?_
  intro p e s m args below meth c ls ha C hP hS hl
  have hn : 64 ≤ n := C.2.1.1.2.1
  have hi0 : ∀ w ∈ u_ws RX0 TX0 6, w ∈ wsX2_allHope := by decide +kernel
  have hi2 : ∀ w ∈ u_ws RX2 TX2 11, w ∈ wsX2_allHope := by decide +kernel
  have hl : lv_has ls 3 [(0, .ref (gA g k))] := hl
  rw [hv] at hP
  have hM := okC_M hC
  have h8 := hC.1
  have hk64 : k + 13 ≤ 64 := by rcases hk with h | h | h <;> omega
  obtain ⟨kd0, kd1, kd2, kd3, kd4, ln1, ln2, ln4⟩ := kd_st hk
  refine lv_iconst (v := 0) C.1.1 C.1.2.1 dX2_allHope_0 rfl ?_
  refine lv_istore_n (lv' := [(1, .int 0), (0, .ref (gA g k))]) C.1.1 C.1.2.1 dX2_allHope_1 rfl hl (by decide) rfl (fun ls hl => ?_)
  refine lv_iconst (v := 0) C.1.1 C.1.2.1 dX2_allHope_2 rfl ?_
  refine lv_istore_n (lv' := [(2, .int 0), (1, .int 0), (0, .ref (gA g k))]) C.1.1 C.1.2.1 dX2_allHope_3 rfl hl (by decide) rfl (fun ls hl => ?_)
  have lp_4 : ∀ (k_4 i : Nat), i ≤ N → N + 1 ≤ i + k_4 → ∀ (H : Heap) (locs : List Loc) (ls : Array Slot), va_P g.1 vwCl (wl g n (stW w k d)) H → va_S (wA g n) s.heap H locs → lv_has ls 3 [(0, .ref (gA g k)), (1, .int (sumM d 3 i)), (2, .int (nI i))] → W p l e rmX2_allHope s m args below meth c H locs 0 0 (MQ below (QF g n (sumM d 3 N) v) args s 0 0 (wA g n)) (F0 m 4 ls []) := by
    clear hP hS hl
    intro k_4
    induction k_4 with
    | zero => exact fun i h1 h2 => absurd h2 (by omega)
    | succ k_4 ih_4 =>
      intro i hi_4 hk_4 H locs ls hP hS hl
      refine lv_iload_n C.1.1 C.1.2.1 dX2_allHope_4 rfl (lv_at hl 2 rfl) ?_
      refine lv_aload_n C.1.1 C.1.2.1 dX2_allHope_5 rfl (lv_at hl 0 rfl) ?_
      refine r_get C hP k 2 (by omega) (by assumption) (by decide) rfl hi2 8 (by decide) (List.mem_of_getElem? (i := 1) rfl) rfl (val := .int ((stW w k d).1 k 8)) rfl dX2_allHope_6 ?_
      refine lv_topE (nI N) ((st_at (i := 0) (sl_k rfl) (by decide)).trans hC.2.1) ?_
      refine lv_icmp_ge (tgt := 30) C.1.1 C.1.2.1 dX2_allHope_9 (by decide) (fun c_1 => ?_) (fun c_1 => ?_)
      · rw [show (nI N ≤ nI i) = (N ≤ i) from propext (nI_leI (a := N) (b := i) (by omega) (by omega))] at c_1
        have hiN : i = N := by omega
        refine lv_iload_n C.1.1 C.1.2.1 dX2_allHope_30 rfl (lv_at hl 1 rfl) ?_
        exact t_F C rfl hP hS (by rw [hiN]) hv.symm dX2_allHope_31
      · rw [show (nI N ≤ nI i) = (N ≤ i) from propext (nI_leI (a := N) (b := i) (by omega) (by omega))] at c_1
        refine lv_iload_n C.1.1 C.1.2.1 dX2_allHope_12 rfl (lv_at hl 1 rfl) ?_
        refine lv_aload_n C.1.1 C.1.2.1 dX2_allHope_13 rfl (lv_at hl 0 rfl) ?_
        refine r_get C hP k 2 (by omega) (by assumption) (by decide) rfl hi2 9 (by decide) (List.mem_of_getElem? (i := 2) rfl) rfl (val := .ref (gA g (k + 3))) rfl dX2_allHope_14 ?_
        refine lv_iload_n C.1.1 C.1.2.1 dX2_allHope_17 rfl (lv_at hl 2 rfl) ?_
        refine r_aald C hP (k + 3) (by omega) (by assumption) i rfl (by omega) dX2_allHope_18 ?_
        refine r_get C hP (k + 5 + i) 0 (by omega) (kd_stR k hk i (by omega)) (by decide) rfl hi0 3 (by decide) (List.mem_of_getElem? (i := 3) rfl) rfl (val := .int ((stW w k d).1 (k + 5 + i) 3)) rfl dX2_allHope_19 ?_
        refine lv_topE (d (25 + 8 * 3 + i)) (st_at (i := 25 + 8 * 3 + i) (sl_5 (r := i) (w := 3) (by omega) (by decide)) (by omega)) ?_
        refine lv_iadd C.1.1 C.1.2.1 dX2_allHope_22 ?_
        refine lv_istore_n (lv' := [(1, .int ((sumM d 3 i) + (d (25 + 8 * 3 + i)))), (0, .ref (gA g k)), (2, .int (nI i))]) C.1.1 C.1.2.1 dX2_allHope_23 rfl hl (by decide) rfl (fun ls hl => ?_)
        refine lv_iinc (v := nI (i + 1)) (lv' := [(2, .int (nI (i + 1))), (1, .int ((sumM d 3 i) + (d (25 + 8 * 3 + i)))), (0, .ref (gA g k))]) C.1.1 C.1.2.1 dX2_allHope_24 hl (k := 2) rfl (nI_1 i) (by decide) rfl (fun ls hl => ?_)
        refine lv_goto (tgt := 4) C.1.1 C.1.2.1 dX2_allHope_27 (by decide) ?_
        exact ih_4 (i + 1) (by omega) (by omega) _ _ _ hP hS (lv_sub hl [2, 1, 0] rfl)
  exact lp_4 (N + 1) 0 (Nat.zero_le _) (by omega) _ _ _ hP hS (lv_sub hl [2, 1, 0] rfl)

abbrev rmX2_allStood : Room := { frames := 0, cells := 0, slots := 0, locals := 0 }
set_option maxHeartbeats 4000000 in
set_option maxRecDepth 100000 in
theorem kX2_allStood (l : Launch) (g : GG) (n : Nat) (v : SV)  (w : SV) (k : Nat) (d : Nat → Int32) (N : Nat) (hk : isSt k) (hv : v = stW w k d) (hC : okC d N) : Met l yX2_allStood wsX2_allStood rmX2_allStood (PW g n v [.ref (gA g k)]) (QF g n (sumM d 4 N) v) 0 0 (wA g n) := by
  refine Met.begin RX2 rfl (by decide) rfl (Nat.le_of_ble_eq_true rfl) ?_
  intro p e s m args below meth c ls ha C hP hS hl
  have hn : 64 ≤ n := C.2.1.1.2.1
  have hi0 : ∀ w ∈ u_ws RX0 TX0 6, w ∈ wsX2_allStood := by decide +kernel
  have hi2 : ∀ w ∈ u_ws RX2 TX2 11, w ∈ wsX2_allStood := by decide +kernel
  have hl : lv_has ls 3 [(0, .ref (gA g k))] := hl
  rw [hv] at hP
  have hM := okC_M hC
  have h8 := hC.1
  have hk64 : k + 13 ≤ 64 := by rcases hk with h | h | h <;> omega
  obtain ⟨kd0, kd1, kd2, kd3, kd4, ln1, ln2, ln4⟩ := kd_st hk
  refine lv_iconst (v := 0) C.1.1 C.1.2.1 dX2_allStood_0 rfl ?_
  refine lv_istore_n (lv' := [(1, .int 0), (0, .ref (gA g k))]) C.1.1 C.1.2.1 dX2_allStood_1 rfl hl (by decide) rfl (fun ls hl => ?_)
  refine lv_iconst (v := 0) C.1.1 C.1.2.1 dX2_allStood_2 rfl ?_
  refine lv_istore_n (lv' := [(2, .int 0), (1, .int 0), (0, .ref (gA g k))]) C.1.1 C.1.2.1 dX2_allStood_3 rfl hl (by decide) rfl (fun ls hl => ?_)
  have lp_4 : ∀ (k_4 i : Nat), i ≤ N → N + 1 ≤ i + k_4 → ∀ (H : Heap) (locs : List Loc) (ls : Array Slot), va_P g.1 vwCl (wl g n (stW w k d)) H → va_S (wA g n) s.heap H locs → lv_has ls 3 [(0, .ref (gA g k)), (1, .int (sumM d 4 i)), (2, .int (nI i))] → W p l e rmX2_allStood s m args below meth c H locs 0 0 (MQ below (QF g n (sumM d 4 N) v) args s 0 0 (wA g n)) (F0 m 4 ls []) := by
    clear hP hS hl
    intro k_4
    induction k_4 with
    | zero => exact fun i h1 h2 => absurd h2 (by omega)
    | succ k_4 ih_4 =>
      intro i hi_4 hk_4 H locs ls hP hS hl
      refine lv_iload_n C.1.1 C.1.2.1 dX2_allStood_4 rfl (lv_at hl 2 rfl) ?_
      refine lv_aload_n C.1.1 C.1.2.1 dX2_allStood_5 rfl (lv_at hl 0 rfl) ?_
      refine r_get C hP k 2 (by omega) (by assumption) (by decide) rfl hi2 8 (by decide) (List.mem_of_getElem? (i := 1) rfl) rfl (val := .int ((stW w k d).1 k 8)) rfl dX2_allStood_6 ?_
      refine lv_topE (nI N) ((st_at (i := 0) (sl_k rfl) (by decide)).trans hC.2.1) ?_
      refine lv_icmp_ge (tgt := 30) C.1.1 C.1.2.1 dX2_allStood_9 (by decide) (fun c_1 => ?_) (fun c_1 => ?_)
      · rw [show (nI N ≤ nI i) = (N ≤ i) from propext (nI_leI (a := N) (b := i) (by omega) (by omega))] at c_1
        have hiN : i = N := by omega
        refine lv_iload_n C.1.1 C.1.2.1 dX2_allStood_30 rfl (lv_at hl 1 rfl) ?_
        exact t_F C rfl hP hS (by rw [hiN]) hv.symm dX2_allStood_31
      · rw [show (nI N ≤ nI i) = (N ≤ i) from propext (nI_leI (a := N) (b := i) (by omega) (by omega))] at c_1
        refine lv_iload_n C.1.1 C.1.2.1 dX2_allStood_12 rfl (lv_at hl 1 rfl) ?_
        refine lv_aload_n C.1.1 C.1.2.1 dX2_allStood_13 rfl (lv_at hl 0 rfl) ?_
        refine r_get C hP k 2 (by omega) (by assumption) (by decide) rfl hi2 9 (by decide) (List.mem_of_getElem? (i := 2) rfl) rfl (val := .ref (gA g (k + 3))) rfl dX2_allStood_14 ?_
        refine lv_iload_n C.1.1 C.1.2.1 dX2_allStood_17 rfl (lv_at hl 2 rfl) ?_
        refine r_aald C hP (k + 3) (by omega) (by assumption) i rfl (by omega) dX2_allStood_18 ?_
        refine r_get C hP (k + 5 + i) 0 (by omega) (kd_stR k hk i (by omega)) (by decide) rfl hi0 4 (by decide) (List.mem_of_getElem? (i := 3) rfl) rfl (val := .int ((stW w k d).1 (k + 5 + i) 4)) rfl dX2_allStood_19 ?_
        refine lv_topE (d (25 + 8 * 4 + i)) (st_at (i := 25 + 8 * 4 + i) (sl_5 (r := i) (w := 4) (by omega) (by decide)) (by omega)) ?_
        refine lv_iadd C.1.1 C.1.2.1 dX2_allStood_22 ?_
        refine lv_istore_n (lv' := [(1, .int ((sumM d 4 i) + (d (25 + 8 * 4 + i)))), (0, .ref (gA g k)), (2, .int (nI i))]) C.1.1 C.1.2.1 dX2_allStood_23 rfl hl (by decide) rfl (fun ls hl => ?_)
        refine lv_iinc (v := nI (i + 1)) (lv' := [(2, .int (nI (i + 1))), (1, .int ((sumM d 4 i) + (d (25 + 8 * 4 + i)))), (0, .ref (gA g k))]) C.1.1 C.1.2.1 dX2_allStood_24 hl (k := 2) rfl (nI_1 i) (by decide) rfl (fun ls hl => ?_)
        refine lv_goto (tgt := 4) C.1.1 C.1.2.1 dX2_allStood_27 (by decide) ?_
        exact ih_4 (i + 1) (by omega) (by omega) _ _ _ hP hS (lv_sub hl [2, 1, 0] rfl)
  exact lp_4 (N + 1) 0 (Nat.zero_le _) (by omega) _ _ _ hP hS (lv_sub hl [2, 1, 0] rfl)

abbrev rmX2_allRegister : Room := { frames := 0, cells := 0, slots := 0, locals := 0 }
set_option maxHeartbeats 4000000 in
set_option maxRecDepth 100000 in
theorem kX2_allRegister (l : Launch) (g : GG) (n : Nat) (v : SV)  (w : SV) (k : Nat) (d : Nat → Int32) (N : Nat) (hk : isSt k) (hv : v = stW w k d) (hC : okC d N) : Met l yX2_allRegister wsX2_allRegister rmX2_allRegister (PW g n v [.ref (gA g k)]) (QF g n (rsumM d 12) v) 0 0 (wA g n) := by
  refine Met.begin RX2 rfl (by decide) rfl (Nat.le_of_ble_eq_true rfl) ?_
  intro p e s m args below meth c ls ha C hP hS hl
  have hn : 64 ≤ n := C.2.1.1.2.1
  have hi2 : ∀ w ∈ u_ws RX2 TX2 11, w ∈ wsX2_allRegister := by decide +kernel
  have hl : lv_has ls 3 [(0, .ref (gA g k))] := hl
  rw [hv] at hP
  have hM := okC_M hC
  have h8 := hC.1
  have hk64 : k + 13 ≤ 64 := by rcases hk with h | h | h <;> omega
  obtain ⟨kd0, kd1, kd2, kd3, kd4, ln1, ln2, ln4⟩ := kd_st hk
  refine lv_iconst (v := 0) C.1.1 C.1.2.1 dX2_allRegister_0 rfl ?_
  refine lv_istore_n (lv' := [(1, .int 0), (0, .ref (gA g k))]) C.1.1 C.1.2.1 dX2_allRegister_1 rfl hl (by decide) rfl (fun ls hl => ?_)
  refine lv_iconst (v := 0) C.1.1 C.1.2.1 dX2_allRegister_2 rfl ?_
  refine lv_istore_n (lv' := [(2, .int 0), (1, .int 0), (0, .ref (gA g k))]) C.1.1 C.1.2.1 dX2_allRegister_3 rfl hl (by decide) rfl (fun ls hl => ?_)
  have lp_4 : ∀ (k_4 i : Nat), i ≤ 12 → 12 + 1 ≤ i + k_4 → ∀ (H : Heap) (locs : List Loc) (ls : Array Slot), va_P g.1 vwCl (wl g n (stW w k d)) H → va_S (wA g n) s.heap H locs → lv_has ls 3 [(0, .ref (gA g k)), (1, .int (rsumM d i)), (2, .int (nI i))] → W p l e rmX2_allRegister s m args below meth c H locs 0 0 (MQ below (QF g n (rsumM d 12) v) args s 0 0 (wA g n)) (F0 m 4 ls []) := by
    clear hP hS hl
    intro k_4
    induction k_4 with
    | zero => exact fun i h1 h2 => absurd h2 (by omega)
    | succ k_4 ih_4 =>
      intro i hi_4 hk_4 H locs ls hP hS hl
      refine lv_iload_n C.1.1 C.1.2.1 dX2_allRegister_4 rfl (lv_at hl 2 rfl) ?_
      refine lv_bipush (v := 12) C.1.1 C.1.2.1 dX2_allRegister_5 rfl ?_
      refine lv_icmp_ge (tgt := 25) C.1.1 C.1.2.1 dX2_allRegister_7 (by decide) (fun c_1 => ?_) (fun c_1 => ?_)
      · rw [show (12 ≤ nI i) = (12 ≤ i) from propext (nI_leI (a := 12) (b := i) (by omega) (by omega))] at c_1
        have hi12 : i = 12 := by omega
        refine lv_iload_n C.1.1 C.1.2.1 dX2_allRegister_25 rfl (lv_at hl 1 rfl) ?_
        exact t_F C rfl hP hS (by rw [hi12]) hv.symm dX2_allRegister_26
      · rw [show (12 ≤ nI i) = (12 ≤ i) from propext (nI_leI (a := 12) (b := i) (by omega) (by omega))] at c_1
        refine lv_iload_n C.1.1 C.1.2.1 dX2_allRegister_10 rfl (lv_at hl 1 rfl) ?_
        refine lv_aload_n C.1.1 C.1.2.1 dX2_allRegister_11 rfl (lv_at hl 0 rfl) ?_
        refine r_get C hP k 2 (by omega) (by assumption) (by decide) rfl hi2 4 (by decide) (List.mem_of_getElem? (i := 1) rfl) rfl (val := .ref (gA g (k + 2))) rfl dX2_allRegister_12 ?_
        refine lv_iload_n C.1.1 C.1.2.1 dX2_allRegister_15 rfl (lv_at hl 2 rfl) ?_
        refine r_iald C hP (k + 2) (by omega) (by assumption) i rfl (N := 12) ln2 (by decide) (by omega) dX2_allRegister_16 ?_
        refine lv_topE (d (13 + i)) (st_at (i := 13 + i) (sl_2 (by omega)) (by omega)) ?_
        refine lv_iadd C.1.1 C.1.2.1 dX2_allRegister_17 ?_
        refine lv_istore_n (lv' := [(1, .int ((rsumM d i) + (d (13 + i)))), (0, .ref (gA g k)), (2, .int (nI i))]) C.1.1 C.1.2.1 dX2_allRegister_18 rfl hl (by decide) rfl (fun ls hl => ?_)
        refine lv_iinc (v := nI (i + 1)) (lv' := [(2, .int (nI (i + 1))), (1, .int ((rsumM d i) + (d (13 + i)))), (0, .ref (gA g k))]) C.1.1 C.1.2.1 dX2_allRegister_19 hl (k := 2) rfl (nI_1 i) (by decide) rfl (fun ls hl => ?_)
        refine lv_goto (tgt := 4) C.1.1 C.1.2.1 dX2_allRegister_22 (by decide) ?_
        exact ih_4 (i + 1) (by omega) (by omega) _ _ _ hP hS (lv_sub hl [2, 1, 0] rfl)
  exact lp_4 (12 + 1) 0 (Nat.zero_le _) (by omega) _ _ _ hP hS (lv_sub hl [2, 1, 0] rfl)

abbrev rmX2_goodsInRegister : Room := { frames := 0, cells := 0, slots := 0, locals := 0 }
set_option maxHeartbeats 4000000 in
set_option maxRecDepth 100000 in
theorem kX2_goodsInRegister (l : Launch) (g : GG) (n : Nat) (v : SV)  (w : SV) (k : Nat) (d : Nat → Int32) (N : Nat) (hk : isSt k) (hv : v = stW w k d) (hC : okC d N) : Met l yX2_goodsInRegister wsX2_goodsInRegister rmX2_goodsInRegister (PW g n v [.ref (gA g k)]) (QF g n (rsetM d 12) v) 0 0 (wA g n) := by
  refine Met.begin RX2 rfl (by decide) rfl (Nat.le_of_ble_eq_true rfl) ?_
  intro p e s m args below meth c ls ha C hP hS hl
  have hn : 64 ≤ n := C.2.1.1.2.1
  have hi2 : ∀ w ∈ u_ws RX2 TX2 11, w ∈ wsX2_goodsInRegister := by decide +kernel
  have hl : lv_has ls 3 [(0, .ref (gA g k))] := hl
  rw [hv] at hP
  have hM := okC_M hC
  have h8 := hC.1
  have hk64 : k + 13 ≤ 64 := by rcases hk with h | h | h <;> omega
  obtain ⟨kd0, kd1, kd2, kd3, kd4, ln1, ln2, ln4⟩ := kd_st hk
  refine lv_iconst (v := 0) C.1.1 C.1.2.1 dX2_goodsInRegister_0 rfl ?_
  refine lv_istore_n (lv' := [(1, .int 0), (0, .ref (gA g k))]) C.1.1 C.1.2.1 dX2_goodsInRegister_1 rfl hl (by decide) rfl (fun ls hl => ?_)
  refine lv_iconst (v := 0) C.1.1 C.1.2.1 dX2_goodsInRegister_2 rfl ?_
  refine lv_istore_n (lv' := [(2, .int 0), (1, .int 0), (0, .ref (gA g k))]) C.1.1 C.1.2.1 dX2_goodsInRegister_3 rfl hl (by decide) rfl (fun ls hl => ?_)
  have lp_4 : ∀ (k_4 i : Nat), i ≤ 12 → 12 + 1 ≤ i + k_4 → ∀ (H : Heap) (locs : List Loc) (ls : Array Slot), va_P g.1 vwCl (wl g n (stW w k d)) H → va_S (wA g n) s.heap H locs → lv_has ls 3 [(0, .ref (gA g k)), (1, .int (rsetM d i)), (2, .int (nI i))] → W p l e rmX2_goodsInRegister s m args below meth c H locs 0 0 (MQ below (QF g n (rsetM d 12) v) args s 0 0 (wA g n)) (F0 m 4 ls []) := by
    clear hP hS hl
    intro k_4
    induction k_4 with
    | zero => exact fun i h1 h2 => absurd h2 (by omega)
    | succ k_4 ih_4 =>
      intro i hi_4 hk_4 H locs ls hP hS hl
      refine lv_iload_n C.1.1 C.1.2.1 dX2_goodsInRegister_4 rfl (lv_at hl 2 rfl) ?_
      refine lv_bipush (v := 12) C.1.1 C.1.2.1 dX2_goodsInRegister_5 rfl ?_
      refine lv_icmp_ge (tgt := 31) C.1.1 C.1.2.1 dX2_goodsInRegister_7 (by decide) (fun c_1 => ?_) (fun c_1 => ?_)
      · rw [show (12 ≤ nI i) = (12 ≤ i) from propext (nI_leI (a := 12) (b := i) (by omega) (by omega))] at c_1
        have hi12 : i = 12 := by omega
        refine lv_iload_n C.1.1 C.1.2.1 dX2_goodsInRegister_31 rfl (lv_at hl 1 rfl) ?_
        exact t_F C rfl hP hS (by rw [hi12]) hv.symm dX2_goodsInRegister_32
      · rw [show (12 ≤ nI i) = (12 ≤ i) from propext (nI_leI (a := 12) (b := i) (by omega) (by omega))] at c_1
        refine lv_aload_n C.1.1 C.1.2.1 dX2_goodsInRegister_10 rfl (lv_at hl 0 rfl) ?_
        refine r_get C hP k 2 (by omega) (by assumption) (by decide) rfl hi2 4 (by decide) (List.mem_of_getElem? (i := 1) rfl) rfl (val := .ref (gA g (k + 2))) rfl dX2_goodsInRegister_11 ?_
        refine lv_iload_n C.1.1 C.1.2.1 dX2_goodsInRegister_14 rfl (lv_at hl 2 rfl) ?_
        refine r_iald C hP (k + 2) (by omega) (by assumption) i rfl (N := 12) ln2 (by decide) (by omega) dX2_goodsInRegister_15 ?_
        refine lv_topE (d (13 + i)) (st_at (i := 13 + i) (sl_2 (by omega)) (by omega)) ?_
        refine lv_if_le (tgt := 25) C.1.1 C.1.2.1 dX2_goodsInRegister_16 (by decide) (fun c_2 => ?_) (fun c_2 => ?_)
        · skip
          refine lv_iinc (v := nI (i + 1)) (lv' := [(2, .int (nI (i + 1))), (0, .ref (gA g k)), (1, .int (rsetM d i))]) C.1.1 C.1.2.1 dX2_goodsInRegister_25 hl (k := 2) rfl (nI_1 i) (by decide) rfl (fun ls hl => ?_)
          refine lv_goto (tgt := 4) C.1.1 C.1.2.1 dX2_goodsInRegister_28 (by decide) ?_
          exact ih_4 (i + 1) (by omega) (by omega) _ _ _ hP hS (by rw [rset_s0 c_2]; exact lv_sub hl [1, 2, 0] rfl)
        · skip
          refine lv_iload_n C.1.1 C.1.2.1 dX2_goodsInRegister_19 rfl (lv_at hl 1 rfl) ?_
          refine lv_iconst (v := 1) C.1.1 C.1.2.1 dX2_goodsInRegister_20 rfl ?_
          refine lv_iload_n C.1.1 C.1.2.1 dX2_goodsInRegister_21 rfl (lv_at hl 2 rfl) ?_
          refine lv_ishl C.1.1 C.1.2.1 dX2_goodsInRegister_22 ?_
          refine lv_ior C.1.1 C.1.2.1 dX2_goodsInRegister_23 ?_
          refine lv_istore_n (lv' := [(1, .int ((rsetM d i) ||| (1 <<< ((nI i) &&& 31)))), (0, .ref (gA g k)), (2, .int (nI i))]) C.1.1 C.1.2.1 dX2_goodsInRegister_24 rfl hl (by decide) rfl (fun ls hl => ?_)
          refine lv_iinc (v := nI (i + 1)) (lv' := [(2, .int (nI (i + 1))), (1, .int ((rsetM d i) ||| (1 <<< ((nI i) &&& 31)))), (0, .ref (gA g k))]) C.1.1 C.1.2.1 dX2_goodsInRegister_25 hl (k := 2) rfl (nI_1 i) (by decide) rfl (fun ls hl => ?_)
          refine lv_goto (tgt := 4) C.1.1 C.1.2.1 dX2_goodsInRegister_28 (by decide) ?_
          exact ih_4 (i + 1) (by omega) (by omega) _ _ _ hP hS (by rw [rset_s1 c_2]; exact lv_sub hl [2, 1, 0] rfl)
  exact lp_4 (12 + 1) 0 (Nat.zero_le _) (by omega) _ _ _ hP hS (lv_sub hl [2, 1, 0] rfl)

abbrev rmX2_fetches : Room := { frames := 1, cells := 0, slots := 0, locals := 24 }
set_option maxHeartbeats 4000000 in
set_option maxRecDepth 100000 in
theorem kX2_fetches (l : Launch) (g : GG) (n : Nat) (v : SV)  (w : SV) (k : Nat) (d : Nat → Int32) (N : Nat) (hk : isSt k) (hv : v = stW w k d) (hC : okC d N) : Met l yX2_fetches wsX2_fetches rmX2_fetches (PW g n v [.ref (gA g k)]) (QF g n (fetchM d) v) 0 0 (wA g n) := by
  refine Met.begin RX2 rfl (by decide) rfl (Nat.le_of_ble_eq_true rfl) ?_
  intro p e s m args below meth c ls ha C hP hS hl
  have hn : 64 ≤ n := C.2.1.1.2.1
  have hi2 : ∀ w ∈ u_ws RX2 TX2 11, w ∈ wsX2_fetches := by decide +kernel
  have hl : lv_has ls 3 [(0, .ref (gA g k))] := hl
  rw [hv] at hP
  have hM := okC_M hC
  have h8 := hC.1
  have hk64 : k + 13 ≤ 64 := by rcases hk with h | h | h <;> omega
  obtain ⟨kd0, kd1, kd2, kd3, kd4, ln1, ln2, ln4⟩ := kd_st hk
  refine lv_iconst (v := 0) C.1.1 C.1.2.1 dX2_fetches_0 rfl ?_
  refine lv_istore_n (lv' := [(1, .int 0), (0, .ref (gA g k))]) C.1.1 C.1.2.1 dX2_fetches_1 rfl hl (by decide) rfl (fun ls hl => ?_)
  refine lv_iconst (v := 0) C.1.1 C.1.2.1 dX2_fetches_2 rfl ?_
  refine lv_istore_n (lv' := [(2, .int 0), (1, .int 0), (0, .ref (gA g k))]) C.1.1 C.1.2.1 dX2_fetches_3 rfl hl (by decide) rfl (fun ls hl => ?_)
  have lp_4 : ∀ (k_4 i : Nat), i ≤ 12 → 12 + 1 ≤ i + k_4 → ∀ (H : Heap) (locs : List Loc) (ls : Array Slot), va_P g.1 vwCl (wl g n (stW w k d)) H → va_S (wA g n) s.heap H locs → lv_has ls 3 [(0, .ref (gA g k)), (1, .int (mostM d i)), (2, .int (nI i))] → W p l e rmX2_fetches s m args below meth c H locs 0 0 (MQ below (QF g n (fetchM d) v) args s 0 0 (wA g n)) (F0 m 4 ls []) := by
    clear hP hS hl
    intro k_4
    induction k_4 with
    | zero => exact fun i h1 h2 => absurd h2 (by omega)
    | succ k_4 ih_4 =>
      intro i hi_4 hk_4 H locs ls hP hS hl
      refine lv_iload_n C.1.1 C.1.2.1 dX2_fetches_4 rfl (lv_at hl 2 rfl) ?_
      refine lv_bipush (v := 12) C.1.1 C.1.2.1 dX2_fetches_5 rfl ?_
      refine lv_icmp_ge (tgt := 27) C.1.1 C.1.2.1 dX2_fetches_7 (by decide) (fun c_1 => ?_) (fun c_1 => ?_)
      · rw [show (12 ≤ nI i) = (12 ≤ i) from propext (nI_leI (a := 12) (b := i) (by omega) (by omega))] at c_1
        have hi12 : i = 12 := by omega
        refine lv_iload_n C.1.1 C.1.2.1 dX2_fetches_27 rfl (lv_at hl 1 rfl) ?_
        refine lv_iconst (v := 5) C.1.1 C.1.2.1 dX2_fetches_28 rfl ?_
        refine lv_aload_n C.1.1 C.1.2.1 dX2_fetches_29 rfl (lv_at hl 0 rfl) ?_
        refine a_F hS (run_V C hP hS hl.1 k 2 (by omega) (by assumption) (by decide) rfl [] (kX2_goodsInRegister l g n (stW w k d) w k d N hk rfl hC) gX2_fetches_X2_goodsInRegister rfl hdX2_goodsInRegister rfl ⟨rfl, rfl⟩ ⟨Nat.le_of_ble_eq_true rfl, Nat.le_of_ble_eq_true rfl⟩ rfl [.int 5, .int (mostM d i)] rfl (Nat.le_of_ble_eq_true rfl) dX2_fetches_30 ⟨Nat.zero_le _, Nat.zero_le _⟩) (fun H locs hP hS => ?_)
        refine a_F hS (run_S C hP hS hl.1 [.int (rsetM d 12)] (kJ6_bitCount_0f7a4 l g n (stW w k d) (rsetM d 12)) gX2_fetches_J6_bitCount_0f7a4 hdJ6_bitCount_0f7a4 rfl ⟨rfl, rfl⟩ ⟨Nat.le_of_ble_eq_true rfl, Nat.le_of_ble_eq_true rfl⟩ rfl [.int 5, .int (mostM d i)] rfl (Nat.le_of_ble_eq_true rfl) dX2_fetches_33 ⟨Nat.zero_le _, Nat.zero_le _⟩) (fun H locs hP hS => ?_)
        refine lv_topE (manyM d 12) (pop_rset d) ?_
        refine lv_imul C.1.1 C.1.2.1 dX2_fetches_36 ?_
        refine lv_iadd C.1.1 C.1.2.1 dX2_fetches_37 ?_
        exact t_F C rfl hP hS (by rw [hi12]; rfl) hv.symm dX2_fetches_38
      · rw [show (12 ≤ nI i) = (12 ≤ i) from propext (nI_leI (a := 12) (b := i) (by omega) (by omega))] at c_1
        refine lv_iload_n C.1.1 C.1.2.1 dX2_fetches_10 rfl (lv_at hl 1 rfl) ?_
        refine lv_aload_n C.1.1 C.1.2.1 dX2_fetches_11 rfl (lv_at hl 0 rfl) ?_
        refine r_get C hP k 2 (by omega) (by assumption) (by decide) rfl hi2 4 (by decide) (List.mem_of_getElem? (i := 1) rfl) rfl (val := .ref (gA g (k + 2))) rfl dX2_fetches_12 ?_
        refine lv_iload_n C.1.1 C.1.2.1 dX2_fetches_15 rfl (lv_at hl 2 rfl) ?_
        refine r_iald C hP (k + 2) (by omega) (by assumption) i rfl (N := 12) ln2 (by decide) (by omega) dX2_fetches_16 ?_
        refine lv_topE (d (13 + i)) (st_at (i := 13 + i) (sl_2 (by omega)) (by omega)) ?_
        refine va_mmax C.1.1 C.1.2.1 (C.1.2.2.1.trans hl.1.symm) C.1.2.2.2.1 (C.1.2.2.2.2 _ (List.mem_of_getElem? (i := 2) rfl)) (C.1.2.2.2.2 _ (List.mem_of_getElem? (i := 3) rfl)) (C.1.2.2.2.2 _ (List.mem_of_getElem? (i := 4) rfl)) (C.1.2.2.2.2 _ (List.mem_of_getElem? (i := 5) rfl)) (Nat.le_of_ble_eq_true rfl) (Nat.le_of_ble_eq_true rfl) (Nat.le_refl _) (Nat.le_refl _) dX2_fetches_17 ?_
        refine lv_topE (mostM d (i + 1)) (most_s d i) ?_
        refine lv_istore_n (lv' := [(1, .int (mostM d (i + 1))), (0, .ref (gA g k)), (2, .int (nI i))]) C.1.1 C.1.2.1 dX2_fetches_20 rfl hl (by decide) rfl (fun ls hl => ?_)
        refine lv_iinc (v := nI (i + 1)) (lv' := [(2, .int (nI (i + 1))), (1, .int (mostM d (i + 1))), (0, .ref (gA g k))]) C.1.1 C.1.2.1 dX2_fetches_21 hl (k := 2) rfl (nI_1 i) (by decide) rfl (fun ls hl => ?_)
        refine lv_goto (tgt := 4) C.1.1 C.1.2.1 dX2_fetches_24 (by decide) ?_
        exact ih_4 (i + 1) (by omega) (by omega) _ _ _ hP hS (lv_sub hl [2, 1, 0] rfl)
  exact lp_4 (12 + 1) 0 (Nat.zero_le _) (by omega) _ _ _ hP hS (lv_sub hl [2, 1, 0] rfl)

abbrev rmX2_heldSpots : Room := { frames := 0, cells := 0, slots := 0, locals := 0 }
set_option maxHeartbeats 4000000 in
set_option maxRecDepth 100000 in
theorem kX2_heldSpots (l : Launch) (g : GG) (n : Nat) (v : SV)  (w : SV) (k : Nat) (d : Nat → Int32) (N : Nat) (hk : isSt k) (hv : v = stW w k d) (hC : okC d N) : Met l yX2_heldSpots wsX2_heldSpots rmX2_heldSpots (PW g n v [.ref (gA g k)]) (QF g n (hsM d 10) v) 0 0 (wA g n) := by
  refine Met.begin RX2 rfl (by decide) rfl (Nat.le_of_ble_eq_true rfl) ?_
  intro p e s m args below meth c ls ha C hP hS hl
  have hn : 64 ≤ n := C.2.1.1.2.1
  have hi2 : ∀ w ∈ u_ws RX2 TX2 11, w ∈ wsX2_heldSpots := by decide +kernel
  have hl : lv_has ls 3 [(0, .ref (gA g k))] := hl
  rw [hv] at hP
  have hM := okC_M hC
  have h8 := hC.1
  have hk64 : k + 13 ≤ 64 := by rcases hk with h | h | h <;> omega
  obtain ⟨kd0, kd1, kd2, kd3, kd4, ln1, ln2, ln4⟩ := kd_st hk
  refine lv_iconst (v := 0) C.1.1 C.1.2.1 dX2_heldSpots_0 rfl ?_
  refine lv_istore_n (lv' := [(1, .int 0), (0, .ref (gA g k))]) C.1.1 C.1.2.1 dX2_heldSpots_1 rfl hl (by decide) rfl (fun ls hl => ?_)
  refine lv_iconst (v := 0) C.1.1 C.1.2.1 dX2_heldSpots_2 rfl ?_
  refine lv_istore_n (lv' := [(2, .int 0), (1, .int 0), (0, .ref (gA g k))]) C.1.1 C.1.2.1 dX2_heldSpots_3 rfl hl (by decide) rfl (fun ls hl => ?_)
  have lp_4 : ∀ (k_4 i : Nat), i ≤ 10 → 10 + 1 ≤ i + k_4 → ∀ (H : Heap) (locs : List Loc) (ls : Array Slot), va_P g.1 vwCl (wl g n (stW w k d)) H → va_S (wA g n) s.heap H locs → lv_has ls 3 [(0, .ref (gA g k)), (1, .int (hsM d i)), (2, .int (nI i))] → W p l e rmX2_heldSpots s m args below meth c H locs 0 0 (MQ below (QF g n (hsM d 10) v) args s 0 0 (wA g n)) (F0 m 4 ls []) := by
    clear hP hS hl
    intro k_4
    induction k_4 with
    | zero => exact fun i h1 h2 => absurd h2 (by omega)
    | succ k_4 ih_4 =>
      intro i hi_4 hk_4 H locs ls hP hS hl
      refine lv_iload_n C.1.1 C.1.2.1 dX2_heldSpots_4 rfl (lv_at hl 2 rfl) ?_
      refine lv_bipush (v := 10) C.1.1 C.1.2.1 dX2_heldSpots_5 rfl ?_
      refine lv_icmp_ge (tgt := 29) C.1.1 C.1.2.1 dX2_heldSpots_7 (by decide) (fun c_1 => ?_) (fun c_1 => ?_)
      · rw [show (10 ≤ nI i) = (10 ≤ i) from propext (nI_leI (a := 10) (b := i) (by omega) (by omega))] at c_1
        have hi10 : i = 10 := by omega
        refine lv_iload_n C.1.1 C.1.2.1 dX2_heldSpots_29 rfl (lv_at hl 1 rfl) ?_
        exact t_F C rfl hP hS (by rw [hi10]) hv.symm dX2_heldSpots_30
      · rw [show (10 ≤ nI i) = (10 ≤ i) from propext (nI_leI (a := 10) (b := i) (by omega) (by omega))] at c_1
        refine lv_aload_n C.1.1 C.1.2.1 dX2_heldSpots_10 rfl (lv_at hl 0 rfl) ?_
        refine r_get C hP k 2 (by omega) (by assumption) (by decide) rfl hi2 10 (by decide) (List.mem_of_getElem? (i := 1) rfl) rfl (val := .ref (gA g (k + 4))) rfl dX2_heldSpots_11 ?_
        refine lv_iload_n C.1.1 C.1.2.1 dX2_heldSpots_14 rfl (lv_at hl 2 rfl) ?_
        refine r_iald C hP (k + 4) (by omega) (by assumption) i rfl (N := 10) ln4 (by decide) (by omega) dX2_heldSpots_15 ?_
        refine lv_topE ((d (73 + i)) - 1) ((st_sp (sl_4 (by omega)) (by omega)).trans rfl) ?_
        refine lv_iconst (v := (-1)) C.1.1 C.1.2.1 dX2_heldSpots_16 rfl ?_
        refine lv_icmp_eq (tgt := 23) C.1.1 C.1.2.1 dX2_heldSpots_17 (by decide) (fun c_2 => ?_) (fun c_2 => ?_)
        · skip
          refine lv_iinc (v := nI (i + 1)) (lv' := [(2, .int (nI (i + 1))), (0, .ref (gA g k)), (1, .int (hsM d i))]) C.1.1 C.1.2.1 dX2_heldSpots_23 hl (k := 2) rfl (nI_1 i) (by decide) rfl (fun ls hl => ?_)
          refine lv_goto (tgt := 4) C.1.1 C.1.2.1 dX2_heldSpots_26 (by decide) ?_
          exact ih_4 (i + 1) (by omega) (by omega) _ _ _ hP hS (by rw [hs_0 c_2]; exact lv_sub hl [1, 2, 0] rfl)
        · skip
          refine lv_iinc (v := (hsM d i) + 1) (lv' := [(1, .int ((hsM d i) + 1)), (0, .ref (gA g k)), (2, .int (nI i))]) C.1.1 C.1.2.1 dX2_heldSpots_20 hl (k := 1) rfl rfl (by decide) rfl (fun ls hl => ?_)
          refine lv_iinc (v := nI (i + 1)) (lv' := [(2, .int (nI (i + 1))), (1, .int ((hsM d i) + 1)), (0, .ref (gA g k))]) C.1.1 C.1.2.1 dX2_heldSpots_23 hl (k := 2) rfl (nI_1 i) (by decide) rfl (fun ls hl => ?_)
          refine lv_goto (tgt := 4) C.1.1 C.1.2.1 dX2_heldSpots_26 (by decide) ?_
          exact ih_4 (i + 1) (by omega) (by omega) _ _ _ hP hS (by rw [hs_1 c_2]; exact lv_sub hl [2, 1, 0] rfl)
  exact lp_4 (10 + 1) 0 (Nat.zero_le _) (by omega) _ _ _ hP hS (lv_sub hl [2, 1, 0] rfl)

abbrev rmX2_wantedBy : Room := { frames := 0, cells := 0, slots := 0, locals := 0 }
set_option maxHeartbeats 4000000 in
set_option maxRecDepth 100000 in
theorem kX2_wantedBy (l : Launch) (g : GG) (n : Nat) (v : SV) (x : Int32) (w : SV) (k : Nat) (d : Nat → Int32) (N : Nat) (hk : isSt k) (hv : v = stW w k d) (hC : okC d N) : Met l yX2_wantedBy wsX2_wantedBy rmX2_wantedBy (PW g n v [.ref (gA g k), .int x]) (QF g n (wbM d x N) v) 0 0 (wA g n) := by
  refine Met.begin RX2 rfl (by decide) rfl (Nat.le_of_ble_eq_true rfl) ?_
  intro p e s m args below meth c ls ha C hP hS hl
  have hn : 64 ≤ n := C.2.1.1.2.1
  have hi0 : ∀ w ∈ u_ws RX0 TX0 6, w ∈ wsX2_wantedBy := by decide +kernel
  have hi2 : ∀ w ∈ u_ws RX2 TX2 11, w ∈ wsX2_wantedBy := by decide +kernel
  have hl : lv_has ls 4 [(0, .ref (gA g k)), (1, .int x)] := hl
  rw [hv] at hP
  have hM := okC_M hC
  have h8 := hC.1
  have hk64 : k + 13 ≤ 64 := by rcases hk with h | h | h <;> omega
  obtain ⟨kd0, kd1, kd2, kd3, kd4, ln1, ln2, ln4⟩ := kd_st hk
  refine lv_iconst (v := 0) C.1.1 C.1.2.1 dX2_wantedBy_0 rfl ?_
  refine lv_istore_n (lv' := [(2, .int 0), (0, .ref (gA g k)), (1, .int x)]) C.1.1 C.1.2.1 dX2_wantedBy_1 rfl hl (by decide) rfl (fun ls hl => ?_)
  refine lv_iconst (v := 0) C.1.1 C.1.2.1 dX2_wantedBy_2 rfl ?_
  refine lv_istore_n (lv' := [(3, .int 0), (2, .int 0), (0, .ref (gA g k)), (1, .int x)]) C.1.1 C.1.2.1 dX2_wantedBy_3 rfl hl (by decide) rfl (fun ls hl => ?_)
  have lp_4 : ∀ (k_4 i : Nat), i ≤ N → N + 1 ≤ i + k_4 → ∀ (H : Heap) (locs : List Loc) (ls : Array Slot), va_P g.1 vwCl (wl g n (stW w k d)) H → va_S (wA g n) s.heap H locs → lv_has ls 4 [(0, .ref (gA g k)), (1, .int x), (2, .int (wbM d x i)), (3, .int (nI i))] → W p l e rmX2_wantedBy s m args below meth c H locs 0 0 (MQ below (QF g n (wbM d x N) v) args s 0 0 (wA g n)) (F0 m 4 ls []) := by
    clear hP hS hl
    intro k_4
    induction k_4 with
    | zero => exact fun i h1 h2 => absurd h2 (by omega)
    | succ k_4 ih_4 =>
      intro i hi_4 hk_4 H locs ls hP hS hl
      refine lv_iload_n C.1.1 C.1.2.1 dX2_wantedBy_4 rfl (lv_at hl 3 rfl) ?_
      refine lv_aload_n C.1.1 C.1.2.1 dX2_wantedBy_5 rfl (lv_at hl 0 rfl) ?_
      refine r_get C hP k 2 (by omega) (by assumption) (by decide) rfl hi2 8 (by decide) (List.mem_of_getElem? (i := 1) rfl) rfl (val := .int ((stW w k d).1 k 8)) rfl dX2_wantedBy_6 ?_
      refine lv_topE (nI N) ((st_at (i := 0) (sl_k rfl) (by decide)).trans hC.2.1) ?_
      refine lv_icmp_ge (tgt := 39) C.1.1 C.1.2.1 dX2_wantedBy_9 (by decide) (fun c_1 => ?_) (fun c_1 => ?_)
      · rw [show (nI N ≤ nI i) = (N ≤ i) from propext (nI_leI (a := N) (b := i) (by omega) (by omega))] at c_1
        have hiN : i = N := by omega
        refine lv_iload_n C.1.1 C.1.2.1 dX2_wantedBy_39 rfl (lv_at hl 2 rfl) ?_
        exact t_F C rfl hP hS (by rw [hiN]) hv.symm dX2_wantedBy_40
      · rw [show (nI N ≤ nI i) = (N ≤ i) from propext (nI_leI (a := N) (b := i) (by omega) (by omega))] at c_1
        refine lv_iload_n C.1.1 C.1.2.1 dX2_wantedBy_12 rfl (lv_at hl 1 rfl) ?_
        refine lv_iload_n C.1.1 C.1.2.1 dX2_wantedBy_13 rfl (lv_at hl 3 rfl) ?_
        refine lv_ishr C.1.1 C.1.2.1 dX2_wantedBy_14 ?_
        refine lv_iconst (v := 1) C.1.1 C.1.2.1 dX2_wantedBy_15 rfl ?_
        refine lv_iand C.1.1 C.1.2.1 dX2_wantedBy_16 ?_
        refine lv_iconst (v := 1) C.1.1 C.1.2.1 dX2_wantedBy_17 rfl ?_
        refine lv_icmp_ne (tgt := 33) C.1.1 C.1.2.1 dX2_wantedBy_18 (by decide) (fun c_2 => ?_) (fun c_2 => ?_)
        · skip
          refine lv_iinc (v := nI (i + 1)) (lv' := [(3, .int (nI (i + 1))), (0, .ref (gA g k)), (1, .int x), (2, .int (wbM d x i))]) C.1.1 C.1.2.1 dX2_wantedBy_33 hl (k := 3) rfl (nI_1 i) (by decide) rfl (fun ls hl => ?_)
          refine lv_goto (tgt := 4) C.1.1 C.1.2.1 dX2_wantedBy_36 (by decide) ?_
          exact ih_4 (i + 1) (by omega) (by omega) _ _ _ hP hS (by rw [wb_0 c_2]; exact lv_sub hl [1, 2, 3, 0] rfl)
        · skip
          refine lv_iload_n C.1.1 C.1.2.1 dX2_wantedBy_21 rfl (lv_at hl 2 rfl) ?_
          refine lv_aload_n C.1.1 C.1.2.1 dX2_wantedBy_22 rfl (lv_at hl 0 rfl) ?_
          refine r_get C hP k 2 (by omega) (by assumption) (by decide) rfl hi2 9 (by decide) (List.mem_of_getElem? (i := 2) rfl) rfl (val := .ref (gA g (k + 3))) rfl dX2_wantedBy_23 ?_
          refine lv_iload_n C.1.1 C.1.2.1 dX2_wantedBy_26 rfl (lv_at hl 3 rfl) ?_
          refine r_aald C hP (k + 3) (by omega) (by assumption) i rfl (by omega) dX2_wantedBy_27 ?_
          refine r_get C hP (k + 5 + i) 0 (by omega) (kd_stR k hk i (by omega)) (by decide) rfl hi0 2 (by decide) (List.mem_of_getElem? (i := 3) rfl) rfl (val := .int ((stW w k d).1 (k + 5 + i) 2)) rfl dX2_wantedBy_28 ?_
          refine lv_topE (d (25 + 8 * 2 + i)) (st_at (i := 25 + 8 * 2 + i) (sl_5 (r := i) (w := 2) (by omega) (by decide)) (by omega)) ?_
          refine lv_ior C.1.1 C.1.2.1 dX2_wantedBy_31 ?_
          refine lv_istore_n (lv' := [(2, .int ((wbM d x i) ||| (d (25 + 8 * 2 + i)))), (0, .ref (gA g k)), (1, .int x), (3, .int (nI i))]) C.1.1 C.1.2.1 dX2_wantedBy_32 rfl hl (by decide) rfl (fun ls hl => ?_)
          refine lv_iinc (v := nI (i + 1)) (lv' := [(3, .int (nI (i + 1))), (2, .int ((wbM d x i) ||| (d (25 + 8 * 2 + i)))), (0, .ref (gA g k)), (1, .int x)]) C.1.1 C.1.2.1 dX2_wantedBy_33 hl (k := 3) rfl (nI_1 i) (by decide) rfl (fun ls hl => ?_)
          refine lv_goto (tgt := 4) C.1.1 C.1.2.1 dX2_wantedBy_36 (by decide) ?_
          exact ih_4 (i + 1) (by omega) (by omega) _ _ _ hP hS (by rw [wb_1 c_2]; exact lv_sub hl [2, 3, 1, 0] rfl)
  exact lp_4 (N + 1) 0 (Nat.zero_le _) (by omega) _ _ _ hP hS (lv_sub hl [2, 3, 1, 0] rfl)

abbrev rmX2_whoWouldCome : Room := { frames := 4, cells := 0, slots := 0, locals := 90 }
set_option maxHeartbeats 4000000 in
set_option maxRecDepth 100000 in
theorem kX2_whoWouldCome (l : Launch) (g : GG) (n : Nat) (v : SV) (x : Int32) (w : SV) (k : Nat) (d : Nat → Int32) (N : Nat) (hk : isSt k) (hv : v = stW w k d) (hC : okC d N) : Met l yX2_whoWouldCome wsX2_whoWouldCome rmX2_whoWouldCome (PW g n v [.ref (gA g k), .int x]) (QF g n (comeM d x N) v) 0 0 (wA g n) := by
  refine Met.begin RX2 rfl (by decide) rfl (Nat.le_of_ble_eq_true rfl) ?_
  intro p e s m args below meth c ls ha C hP hS hl
  have hn : 64 ≤ n := C.2.1.1.2.1
  have hi0 : ∀ w ∈ u_ws RX0 TX0 6, w ∈ wsX2_whoWouldCome := by decide +kernel
  have hi2 : ∀ w ∈ u_ws RX2 TX2 11, w ∈ wsX2_whoWouldCome := by decide +kernel
  have hl : lv_has ls 4 [(0, .ref (gA g k)), (1, .int x)] := hl
  rw [hv] at hP
  have hM := okC_M hC
  have h8 := hC.1
  have hk64 : k + 13 ≤ 64 := by rcases hk with h | h | h <;> omega
  obtain ⟨kd0, kd1, kd2, kd3, kd4, ln1, ln2, ln4⟩ := kd_st hk
  refine lv_iconst (v := 0) C.1.1 C.1.2.1 dX2_whoWouldCome_0 rfl ?_
  refine lv_istore_n (lv' := [(2, .int 0), (0, .ref (gA g k)), (1, .int x)]) C.1.1 C.1.2.1 dX2_whoWouldCome_1 rfl hl (by decide) rfl (fun ls hl => ?_)
  refine lv_iconst (v := 0) C.1.1 C.1.2.1 dX2_whoWouldCome_2 rfl ?_
  refine lv_istore_n (lv' := [(3, .int 0), (2, .int 0), (0, .ref (gA g k)), (1, .int x)]) C.1.1 C.1.2.1 dX2_whoWouldCome_3 rfl hl (by decide) rfl (fun ls hl => ?_)
  have lp_4 : ∀ (k_4 i : Nat), i ≤ N → N + 1 ≤ i + k_4 → ∀ (H : Heap) (locs : List Loc) (ls : Array Slot), va_P g.1 vwCl (wl g n (stW w k d)) H → va_S (wA g n) s.heap H locs → lv_has ls 4 [(0, .ref (gA g k)), (1, .int x), (2, .int (comeM d x i)), (3, .int (nI i))] → W p l e rmX2_whoWouldCome s m args below meth c H locs 0 0 (MQ below (QF g n (comeM d x N) v) args s 0 0 (wA g n)) (F0 m 4 ls []) := by
    clear hP hS hl
    intro k_4
    induction k_4 with
    | zero => exact fun i h1 h2 => absurd h2 (by omega)
    | succ k_4 ih_4 =>
      intro i hi_4 hk_4 H locs ls hP hS hl
      refine lv_iload_n C.1.1 C.1.2.1 dX2_whoWouldCome_4 rfl (lv_at hl 3 rfl) ?_
      refine lv_aload_n C.1.1 C.1.2.1 dX2_whoWouldCome_5 rfl (lv_at hl 0 rfl) ?_
      refine r_get C hP k 2 (by omega) (by assumption) (by decide) rfl hi2 8 (by decide) (List.mem_of_getElem? (i := 1) rfl) rfl (val := .int ((stW w k d).1 k 8)) rfl dX2_whoWouldCome_6 ?_
      refine lv_topE (nI N) ((st_at (i := 0) (sl_k rfl) (by decide)).trans hC.2.1) ?_
      refine lv_icmp_ge (tgt := 45) C.1.1 C.1.2.1 dX2_whoWouldCome_9 (by decide) (fun c_1 => ?_) (fun c_1 => ?_)
      · rw [show (nI N ≤ nI i) = (N ≤ i) from propext (nI_leI (a := N) (b := i) (by omega) (by omega))] at c_1
        have hiN : i = N := by omega
        refine lv_iload_n C.1.1 C.1.2.1 dX2_whoWouldCome_45 rfl (lv_at hl 2 rfl) ?_
        exact t_F C rfl hP hS (by rw [hiN]) hv.symm dX2_whoWouldCome_46
      · rw [show (nI N ≤ nI i) = (N ≤ i) from propext (nI_leI (a := N) (b := i) (by omega) (by omega))] at c_1
        have hiN : i < N := by omega
        refine lv_aload_n C.1.1 C.1.2.1 dX2_whoWouldCome_12 rfl (lv_at hl 0 rfl) ?_
        refine r_get C hP k 2 (by omega) (by assumption) (by decide) rfl hi2 9 (by decide) (List.mem_of_getElem? (i := 2) rfl) rfl (val := .ref (gA g (k + 3))) rfl dX2_whoWouldCome_13 ?_
        refine lv_iload_n C.1.1 C.1.2.1 dX2_whoWouldCome_16 rfl (lv_at hl 3 rfl) ?_
        refine r_aald C hP (k + 3) (by omega) (by assumption) i rfl (by omega) dX2_whoWouldCome_17 ?_
        refine lv_iload_n C.1.1 C.1.2.1 dX2_whoWouldCome_18 rfl (lv_at hl 1 rfl) ?_
        refine lv_aload_n C.1.1 C.1.2.1 dX2_whoWouldCome_19 rfl (lv_at hl 0 rfl) ?_
        refine r_get C hP k 2 (by omega) (by assumption) (by decide) rfl hi2 0 (by decide) (List.mem_of_getElem? (i := 3) rfl) rfl (val := .int ((stW w k d).1 k 0)) rfl dX2_whoWouldCome_20 ?_
        refine lv_topE (d 3) (st_at (i := 3) (sl_k rfl) (by decide)) ?_
        refine lv_aload_n C.1.1 C.1.2.1 dX2_whoWouldCome_23 rfl (lv_at hl 0 rfl) ?_
        refine r_get C hP k 2 (by omega) (by assumption) (by decide) rfl hi2 2 (by decide) (List.mem_of_getElem? (i := 4) rfl) rfl (val := .int ((stW w k d).1 k 2)) rfl dX2_whoWouldCome_24 ?_
        refine lv_topE (d 5) (st_at (i := 5) (sl_k rfl) (by decide)) ?_
        refine a_B hS (run_V C hP hS hl.1 (k + 5 + i) 0 (by omega) (kd_stR k hk i (by omega)) (by decide) rfl [.int x, .int (d 3), .int (d 5)] (kX0_comesFor l g n (stW w k d) (k + 5 + i) (by omega) (kd_stR k hk i (by omega)) x (d 3) (d 5)) gX2_whoWouldCome_X0_comesFor rfl hdX0_comesFor rfl ⟨rfl, rfl⟩ ⟨Nat.le_of_ble_eq_true rfl, Nat.le_of_ble_eq_true rfl⟩ rfl [] rfl (Nat.le_of_ble_eq_true rfl) dX2_whoWouldCome_27 ⟨Nat.zero_le _, Nat.zero_le _⟩) (fun b_2 H locs hP hS => ?_) (fun b_2 H locs hP hS => ?_)
        · skip
          have hcm := (come_iff (by omega) (okC_R hC hiN)).mp b_2
          refine lv_if_eq (tgt := 39) C.1.1 C.1.2.1 dX2_whoWouldCome_30 (by decide) (fun c_3 => absurd c_3 (by decide)) (fun _ => ?_)
          refine lv_iload_n C.1.1 C.1.2.1 dX2_whoWouldCome_33 rfl (lv_at hl 2 rfl) ?_
          refine lv_iconst (v := 1) C.1.1 C.1.2.1 dX2_whoWouldCome_34 rfl ?_
          refine lv_iload_n C.1.1 C.1.2.1 dX2_whoWouldCome_35 rfl (lv_at hl 3 rfl) ?_
          refine lv_ishl C.1.1 C.1.2.1 dX2_whoWouldCome_36 ?_
          refine lv_ior C.1.1 C.1.2.1 dX2_whoWouldCome_37 ?_
          refine lv_istore_n (lv' := [(2, .int ((comeM d x i) ||| (1 <<< ((nI i) &&& 31)))), (0, .ref (gA g k)), (1, .int x), (3, .int (nI i))]) C.1.1 C.1.2.1 dX2_whoWouldCome_38 rfl hl (by decide) rfl (fun ls hl => ?_)
          refine lv_iinc (v := nI (i + 1)) (lv' := [(3, .int (nI (i + 1))), (2, .int ((comeM d x i) ||| (1 <<< ((nI i) &&& 31)))), (0, .ref (gA g k)), (1, .int x)]) C.1.1 C.1.2.1 dX2_whoWouldCome_39 hl (k := 3) rfl (nI_1 i) (by decide) rfl (fun ls hl => ?_)
          refine lv_goto (tgt := 4) C.1.1 C.1.2.1 dX2_whoWouldCome_42 (by decide) ?_
          exact ih_4 (i + 1) (by omega) (by omega) _ _ _ hP hS (by rw [come_1 hcm]; exact lv_sub hl [2, 3, 1, 0] rfl)
        · skip
          have hcm := fun h => b_2 ((come_iff (by omega) (okC_R hC hiN)).mpr h)
          refine lv_if_eq (tgt := 39) C.1.1 C.1.2.1 dX2_whoWouldCome_30 (by decide) (fun _ => ?_) (fun c_4 => absurd c_4 (by decide))
          refine lv_iinc (v := nI (i + 1)) (lv' := [(3, .int (nI (i + 1))), (0, .ref (gA g k)), (1, .int x), (2, .int (comeM d x i))]) C.1.1 C.1.2.1 dX2_whoWouldCome_39 hl (k := 3) rfl (nI_1 i) (by decide) rfl (fun ls hl => ?_)
          refine lv_goto (tgt := 4) C.1.1 C.1.2.1 dX2_whoWouldCome_42 (by decide) ?_
          exact ih_4 (i + 1) (by omega) (by omega) _ _ _ hP hS (by rw [come_0 hcm]; exact lv_sub hl [1, 2, 3, 0] rfl)
  exact lp_4 (N + 1) 0 (Nat.zero_le _) (by omega) _ _ _ hP hS (lv_sub hl [2, 3, 1, 0] rfl)

abbrev rmX2_sendAway : Room := { frames := 0, cells := 0, slots := 0, locals := 0 }
set_option maxHeartbeats 4000000 in
set_option maxRecDepth 100000 in
theorem kX2_sendAway (l : Launch) (g : GG) (n : Nat) (v : SV) (x : Int32) (w : SV) (k : Nat) (d : Nat → Int32) (N : Nat) (hk : isSt k) (hv : v = stW w k d) (hC : okC d N) : Met l yX2_sendAway wsX2_sendAway rmX2_sendAway (PW g n v [.ref (gA g k), .int x]) (QG g n (stW w k (saM d x N))) 0 0 (wA g n) := by
  refine Met.begin RX2 rfl (by decide) rfl (Nat.le_of_ble_eq_true rfl) ?_
  intro p e s m args below meth c ls ha C hP hS hl
  have hn : 64 ≤ n := C.2.1.1.2.1
  have hi0 : ∀ w ∈ u_ws RX0 TX0 6, w ∈ wsX2_sendAway := by decide +kernel
  have hi2 : ∀ w ∈ u_ws RX2 TX2 11, w ∈ wsX2_sendAway := by decide +kernel
  have hl : lv_has ls 3 [(0, .ref (gA g k)), (1, .int x)] := hl
  rw [hv] at hP
  have hM := okC_M hC
  have h8 := hC.1
  have hk64 : k + 13 ≤ 64 := by rcases hk with h | h | h <;> omega
  obtain ⟨kd0, kd1, kd2, kd3, kd4, ln1, ln2, ln4⟩ := kd_st hk
  refine lv_iconst (v := 0) C.1.1 C.1.2.1 dX2_sendAway_0 rfl ?_
  refine lv_istore_n (lv' := [(2, .int 0), (0, .ref (gA g k)), (1, .int x)]) C.1.1 C.1.2.1 dX2_sendAway_1 rfl hl (by decide) rfl (fun ls hl => ?_)
  have lp_2 : ∀ (k_2 i : Nat), i ≤ N → N + 1 ≤ i + k_2 → ∀ (H : Heap) (locs : List Loc) (ls : Array Slot), va_P g.1 vwCl (wl g n (stW w k (saM d x i))) H → va_S (wA g n) s.heap H locs → lv_has ls 3 [(0, .ref (gA g k)), (1, .int x), (2, .int (nI i))] → W p l e rmX2_sendAway s m args below meth c H locs 0 0 (MQ below (QG g n (stW w k (saM d x N))) args s 0 0 (wA g n)) (F0 m 2 ls []) := by
    clear hP hS hl
    intro k_2
    induction k_2 with
    | zero => exact fun i h1 h2 => absurd h2 (by omega)
    | succ k_2 ih_2 =>
      intro i hi_2 hk_2 H locs ls hP hS hl
      have hCi := okC_sa (x := x) hC i (by omega)
      refine lv_iload_n C.1.1 C.1.2.1 dX2_sendAway_2 rfl (lv_at hl 2 rfl) ?_
      refine lv_aload_n C.1.1 C.1.2.1 dX2_sendAway_3 rfl (lv_at hl 0 rfl) ?_
      refine r_get C hP k 2 (by omega) (by assumption) (by decide) rfl hi2 8 (by decide) (List.mem_of_getElem? (i := 1) rfl) rfl (val := .int ((stW w k (saM d x i)).1 k 8)) rfl dX2_sendAway_4 ?_
      refine lv_topE (nI N) ((st_at (i := 0) (sl_k rfl) (by decide)).trans hCi.2.1) ?_
      refine lv_icmp_ge (tgt := 35) C.1.1 C.1.2.1 dX2_sendAway_7 (by decide) (fun c_1 => ?_) (fun c_1 => ?_)
      · rw [show (nI N ≤ nI i) = (N ≤ i) from propext (nI_leI (a := N) (b := i) (by omega) (by omega))] at c_1
        have hiN : i = N := by omega
        exact t_G C rfl hP hS (by rw [hiN]) dX2_sendAway_35
      · rw [show (nI N ≤ nI i) = (N ≤ i) from propext (nI_leI (a := N) (b := i) (by omega) (by omega))] at c_1
        refine lv_iload_n C.1.1 C.1.2.1 dX2_sendAway_10 rfl (lv_at hl 1 rfl) ?_
        refine lv_iload_n C.1.1 C.1.2.1 dX2_sendAway_11 rfl (lv_at hl 2 rfl) ?_
        refine lv_ishr C.1.1 C.1.2.1 dX2_sendAway_12 ?_
        refine lv_iconst (v := 1) C.1.1 C.1.2.1 dX2_sendAway_13 rfl ?_
        refine lv_iand C.1.1 C.1.2.1 dX2_sendAway_14 ?_
        refine lv_iconst (v := 1) C.1.1 C.1.2.1 dX2_sendAway_15 rfl ?_
        refine lv_icmp_ne (tgt := 29) C.1.1 C.1.2.1 dX2_sendAway_16 (by decide) (fun c_2 => ?_) (fun c_2 => ?_)
        · skip
          refine lv_iinc (v := nI (i + 1)) (lv' := [(2, .int (nI (i + 1))), (0, .ref (gA g k)), (1, .int x)]) C.1.1 C.1.2.1 dX2_sendAway_29 hl (k := 2) rfl (nI_1 i) (by decide) rfl (fun ls hl => ?_)
          refine lv_goto (tgt := 2) C.1.1 C.1.2.1 dX2_sendAway_32 (by decide) ?_
          exact ih_2 (i + 1) (by omega) (by omega) _ _ _ (by rw [sa_0 c_2]; exact hP) hS (lv_sub hl [1, 2, 0] rfl)
        · skip
          refine lv_aload_n C.1.1 C.1.2.1 dX2_sendAway_19 rfl (lv_at hl 0 rfl) ?_
          refine r_get C hP k 2 (by omega) (by assumption) (by decide) rfl hi2 9 (by decide) (List.mem_of_getElem? (i := 2) rfl) rfl (val := .ref (gA g (k + 3))) rfl dX2_sendAway_20 ?_
          refine lv_iload_n C.1.1 C.1.2.1 dX2_sendAway_23 rfl (lv_at hl 2 rfl) ?_
          refine r_aald C hP (k + 3) (by omega) (by assumption) i rfl (by omega) dX2_sendAway_24 ?_
          refine lv_iconst (v := 1) C.1.1 C.1.2.1 dX2_sendAway_25 rfl ?_
          refine r_put C hP hS (k + 5 + i) 0 (by omega) (kd_stR k hk i (by omega)) (by decide) rfl hi0 tyX0 tyX0_ok nmX0 5 (by decide) (List.mem_of_getElem? (i := 3) rfl) rfl rfl rfl rfl rfl (Nat.le_of_ble_eq_true rfl) dX2_sendAway_26 (fun H locs hP hS => ?_)
          rw [show up (stW w k (saM d x i)) (k + 5 + i) 5 1 = stW w k (upd (saM d x i) (25 + 8 * 5 + i) 1) from st_up (sl_5 (r := i) (w := 5) (by omega) (by decide)) (by omega)] at hP
          refine lv_iinc (v := nI (i + 1)) (lv' := [(2, .int (nI (i + 1))), (0, .ref (gA g k)), (1, .int x)]) C.1.1 C.1.2.1 dX2_sendAway_29 hl (k := 2) rfl (nI_1 i) (by decide) rfl (fun ls hl => ?_)
          refine lv_goto (tgt := 2) C.1.1 C.1.2.1 dX2_sendAway_32 (by decide) ?_
          exact ih_2 (i + 1) (by omega) (by omega) _ _ _ (by rw [sa_1 c_2]; exact hP) hS (lv_sub hl [1, 2, 0] rfl)
  exact lp_2 (N + 1) 0 (Nat.zero_le _) (by omega) _ _ _ hP hS (lv_sub hl [1, 2, 0] rfl)

abbrev rmX2_draw : Room := { frames := 0, cells := 0, slots := 0, locals := 0 }
set_option maxHeartbeats 4000000 in
set_option maxRecDepth 100000 in
theorem kX2_draw (l : Launch) (g : GG) (n : Nat) (v : SV)  (w : SV) (k : Nat) (d : Nat → Int32) (N : Nat) (hk : isSt k) (hv : v = stW w k d) (hC : okC d N) : Met l yX2_draw wsX2_draw rmX2_draw (PW g n v [.ref (gA g k)]) (QF g n (ushF (lcgF (d 2)) 8) (stW w k (upd d 2 (lcgF (d 2))))) 0 0 (wA g n) := by
  refine Met.begin RX2 rfl (by decide) rfl (Nat.le_of_ble_eq_true rfl) ?_
  intro p e s m args below meth c ls ha C hP hS hl
  have hn : 64 ≤ n := C.2.1.1.2.1
  have hi2 : ∀ w ∈ u_ws RX2 TX2 11, w ∈ wsX2_draw := by decide +kernel
  have hl : lv_has ls 1 [(0, .ref (gA g k))] := hl
  rw [hv] at hP
  have hM := okC_M hC
  have h8 := hC.1
  have hk64 : k + 13 ≤ 64 := by rcases hk with h | h | h <;> omega
  obtain ⟨kd0, kd1, kd2, kd3, kd4, ln1, ln2, ln4⟩ := kd_st hk
  refine lv_aload_n C.1.1 C.1.2.1 dX2_draw_0 rfl (lv_at hl 0 rfl) ?_
  refine lv_aload_n C.1.1 C.1.2.1 dX2_draw_1 rfl (lv_at hl 0 rfl) ?_
  refine r_get C hP k 2 (by omega) (by assumption) (by decide) rfl hi2 7 (by decide) (List.mem_of_getElem? (i := 1) rfl) rfl (val := .int ((stW w k d).1 k 7)) rfl dX2_draw_2 ?_
  refine lv_topE (d 2) (st_at (i := 2) (sl_k rfl) (by decide)) ?_
  refine lv_ldc (v := 1103515245) C.1.1 C.1.2.1 C.1.2.2.2.1 (C.1.2.2.2.2 _ (List.mem_of_getElem? (i := 2) rfl)) dX2_draw_5 ?_
  refine lv_imul C.1.1 C.1.2.1 dX2_draw_7 ?_
  refine lv_sipush (v := 12345) C.1.1 C.1.2.1 dX2_draw_8 rfl ?_
  refine lv_iadd C.1.1 C.1.2.1 dX2_draw_11 ?_
  refine r_put C hP hS k 2 (by omega) (by assumption) (by decide) rfl hi2 tyX2 tyX2_ok nmX2 7 (by decide) (List.mem_of_getElem? (i := 1) rfl) rfl rfl rfl rfl rfl (Nat.le_of_ble_eq_true rfl) dX2_draw_12 (fun H locs hP hS => ?_)
  rw [show up (stW w k d) k 7 (((d 2) * 1103515245) + 12345) = stW w k (upd d 2 (((d 2) * 1103515245) + 12345)) from st_up (sl_k rfl) (by decide)] at hP
  refine lv_aload_n C.1.1 C.1.2.1 dX2_draw_15 rfl (lv_at hl 0 rfl) ?_
  refine r_get C hP k 2 (by omega) (by assumption) (by decide) rfl hi2 7 (by decide) (List.mem_of_getElem? (i := 1) rfl) rfl (val := .int ((stW w k (upd d 2 (((d 2) * 1103515245) + 12345))).1 k 7)) rfl dX2_draw_16 ?_
  refine lv_topE (((d 2) * 1103515245) + 12345) (st_at (i := 2) (sl_k rfl) (by decide)) ?_
  refine lv_bipush (v := 8) C.1.1 C.1.2.1 dX2_draw_19 rfl ?_
  refine lv_iushr (v := ((((d 2) * 1103515245) + 12345).toUInt32 >>> ((8 : Int32).toUInt32 &&& Int32.toUInt32 31)).toInt32) C.1.1 C.1.2.1 dX2_draw_21 rfl ?_
  exact t_F C rfl hP hS rfl rfl dX2_draw_22

